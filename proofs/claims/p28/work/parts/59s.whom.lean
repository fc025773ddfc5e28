set_option maxHeartbeats 4000000 in
set_option maxRecDepth 100000 in
theorem r_whomE0 (l : Launch) (G : gW) (g : Nat → Nat) (hg : gOK g) (f : Nat → va_E) (ab2 : Int64) (be2 : Int64) (sn : Int32) (wn : Int32) (sa : Int32) (ly : Int32) (rdy : Int32) (fd : Nat) (ss : Nat → Int32) (np : Nat) (nf : Nat) (nr : Nat) (na : Nat) (nt : Nat) (sp : Nat → Int32) (wi : Nat → Int32) (wa : Nat → Int32) (va : Nat → Int64) (ju : Nat → Int32) (q : Int32) (hmo : f 315 = eO 10 [.ref (g 316), .ref (g 317), .ref (g 318), .long ab2, .long be2, .int sn, .ref (g 319), .ref (g 320), .int wn, .ref (g 321), .ref (g 322), .int sa, .int ly, .int rdy, .int (nI fd), .ref (g 323), .ref (g 324), .ref (g 325), .ref (g 326), .ref (g 327), .ref (g 328), .ref (g 329), .ref (g 330), .ref (g 331), .ref (g 332)]) (hss_ : f 316 = eI G 2246 ss) (hsp_ : f 319 = eI G 70 sp) (hwi_ : f 320 = eI G 70 wi) (hwa_ : f 321 = eI G 70 wa) (hva_ : f 322 = eJ G 70 va) (hju_ : f 324 = eI G 11 ju) (hst : stOK ss np nf nr na nt) (hfo : fd ≤ 10) (hdy : ∀ o, o < fd → 0 ≤ (fun t c => ss (10 * t + c + 1546)) o 0) (hmo2 : ∀ o o', o ≤ o' → o' < fd → (fun t c => ss (10 * t + c + 1546)) o 0 ≤ (fun t c => ss (10 * t + c + 1546)) o' 0) : Met l yX11_whom (wsT yX11_whom cX11_whom 8 (some .int)) ({ frames := 4, cells := 0, slots := 0, locals := 93 }) (bP G g f [.ref (g 315), .int 0, .int q, .int (-1)]) (bQi G g (fun (z9 : Int32) (f' : Nat → va_E) => ∃ sn9 : Int32, ∃ wn9 : Int32, ∃ sa9 : Int32, ∃ ly9 : Int32, ∃ sp9 : Nat → Int32, ∃ wi9 : Nat → Int32, ∃ wa9 : Nat → Int32, ∃ va9 : Nat → Int64, z9 = whV np (nvF (fun i c => ss (4 * i + c + 10)) (fun t c => ss (10 * t + c + 1546)) ju q fd) ((1 <<< (nI np &&& 31)) - 1) ((fcB (fun i c => ss (54 * i + c + 466)) 0 q na).map (rL ss)) ∧ f' 315 = eO 10 [.ref (g 316), .ref (g 317), .ref (g 318), .long ab2, .long be2, .int sn9, .ref (g 319), .ref (g 320), .int wn9, .ref (g 321), .ref (g 322), .int sa9, .int ly9, .int rdy, .int (nI fd), .ref (g 323), .ref (g 324), .ref (g 325), .ref (g 326), .ref (g 327), .ref (g 328), .ref (g 329), .ref (g 330), .ref (g 331), .ref (g 332)] ∧ f' 319 = eI G 70 sp9 ∧ f' 320 = eI G 70 wi9 ∧ f' 321 = eI G 70 wa9 ∧ f' 322 = eJ G 70 va9 ∧ ∀ j, (j ≠ 315 ∧ j ≠ 319 ∧ j ≠ 320 ∧ j ≠ 321 ∧ j ≠ 322) → f' j = f j)) 0 0 (gA g) := by
  refine Met.ofW (cc := cX11_whom) (maxL := 8) (ret := (some .int)) (by decide) rfl ?_
  intro p e s m args below meth c s₁ B hml hv
  obtain ⟨rfl, hP, hG⟩ := hv
  have hx := B.exec
  have hb := B.bytes
  have hr := B.returns
  have hts := my_hts (atoms_spec (ws := wsT yX11_whom cX11_whom 8 (some .int)) B.pre)
  have hown : s.vm.findClass RX11 = some m.cls := findClass_of_methodNamed B.named
  have hlocks := B.notSynchronized
  have hS : va_S (gA g) s.heap s.heap [] := va_S.rf
  have hl := lv_entry ([.ref (g 315), .int 0, .int q, .int (-1)]) (n := 8) (Nat.le_of_ble_eq_true rfl)
  rw [lg_entry_eq]
  generalize (lg_sl ([.ref (g 315), .int 0, .int q, .int (-1)]) ++ List.replicate (8 - (lg_sl ([.ref (g 315), .int 0, .int q, .int (-1)])).length) Slot.unset).toArray = ls at hl ⊢
  have hl : lv_has ls 8 [(0, .ref (g 315)), (1, .int 0), (2, .int q), (3, .int (-1))] := hl
  refine W_q8 (fun Q9 hQ9 => ?_)
  have hc0 := hst.c0
  have hc1 := hst.c1
  have hc2 := hst.c2
  have hc3 := hst.c3
  have hc4 := hst.c4
  refine lv_aload_n hx hb dX11_whom_0 rfl (lv_at hl 0 rfl) ?_
  refine lv_iload_n hx hb dX11_whom_1 rfl (lv_at hl 1 rfl) ?_
  refine lv_iload_n hx hb dX11_whom_2 rfl (lv_at hl 2 rfl) ?_
  refine rd_calli (va_runV (As := [.int 0, .int q]) (rest := []) ⟨hx, hb, hml, hown, hts⟩ (r_inForceE l G g hg f ab2 be2 sn wn sa ly rdy (nI fd) ss np nf nr na nt 0 q hmo hss_ (by first | assumption | omega | decide)) (my_cwV hts ok_X11_inForce w_540 rfl rfl ⟨Nat.le_of_ble_eq_true rfl, Nat.le_of_ble_eq_true rfl⟩) ⟨bP.blind, va_recv hG.1 hP (ci := 10) (q0 := 315) rfl (wl_at (by decide) hmo), fun U hU hW => ⟨rfl, by rw [hU]; exact hP, kG.warm hW hG⟩⟩ rfl rfl hl.1 rfl (lv_room (Nat.le_of_ble_eq_true rfl)) dX11_whom_3 ⟨Nat.le_of_ble_eq_true rfl, Nat.le_of_ble_eq_true rfl⟩) (fun r hr9 => ?_)
  obtain ⟨o91, rfl, hx_1_0, hx_1_1⟩ := hr9
  refine lv_istore (lv' := [(4, .int (fo o91)), (0, .ref (g 315)), (1, .int 0), (2, .int q), (3, .int (-1))]) hx hb dX11_whom_6 hl (by decide) rfl (fun ls hl => ?_)
  refine lv_iload_n hx hb dX11_whom_8 rfl (lv_at hl 4 rfl) ?_
  refine lv_iconst (v := (-1)) hx hb dX11_whom_9 (by decide) ?_
  refine lv_icmp_eq (tgt := 24) hx hb dX11_whom_10 (by decide) (fun c_10 => ?_) (fun c_10 => absurd (by decide) c_10)
  refine lv_iload hx hb dX11_whom_24 (lv_at hl 0 rfl) ?_
  refine lv_iconst (v := (-1)) hx hb dX11_whom_26 (by decide) ?_
  refine lv_icmp_ne (tgt := 34) hx hb dX11_whom_27 (by decide) (fun c_27 => ?_) (fun c_27 => ?_)
  · obtain ⟨b9, rfl⟩ : ∃ b, o91 = some b := by
      cases o91 with
      | none => exact absurd rfl c_27
      | some z => exact ⟨z, rfl⟩
    have hb9 := hx_1_0 b9 rfl
    obtain ⟨l9, hl9, hl8, hl7⟩ := hst.ac b9 hb9
    refine lv_sipush (v := 466) hx hb dX11_whom_34 (by decide) ?_
    refine lv_bipush (v := 54) hx hb dX11_whom_37 (by decide) ?_
    refine lv_iload hx hb dX11_whom_39 (lv_at hl 0 rfl) ?_
    refine lv_imul hx hb dX11_whom_41 ?_
    refine my_bei (v := nI (54 * b9)) (pk_mul 54 b9) ?_
    refine lv_iadd hx hb dX11_whom_42 ?_
    refine my_bei (v := nI (54 * b9 + 466)) ((nI_add 466 (54 * b9)).trans (congrArg nI (show 466 + (54 * b9) = 54 * b9 + 466 by omega))) ?_
    refine lv_iconst (v := 3) hx hb dX11_whom_43 (by decide) ?_
    refine lv_iadd hx hb dX11_whom_44 ?_
    refine my_bei (v := nI (54 * b9 + 469)) ((nI_add (54 * b9 + 466) 3).trans (congrArg nI (show (54 * b9 + 466) + 3 = 54 * b9 + 469 by omega))) ?_
    refine lv_istore (lv' := [(5, .int (nI (54 * b9 + 469))), (4, .int (nI b9)), (0, .ref (g 315)), (1, .int 0), (2, .int q), (3, .int (-1))]) hx hb dX11_whom_45 hl (by decide) rfl (fun ls hl => ?_)
    refine lv_iload hx hb dX11_whom_47 (lv_at hl 0 rfl) ?_
    refine lv_iconst (v := (-1)) hx hb dX11_whom_49 (by decide) ?_
    refine lv_icmp_ne (tgt := 66) hx hb dX11_whom_50 (by decide) (fun c_50 => ?_) (fun c_50 => absurd c_50 (nI_m1 (by omega)))
    refine lv_aload_n hx hb dX11_whom_66 rfl (lv_at hl 2 rfl) ?_
    refine lv_iload hx hb dX11_whom_67 (lv_at hl 0 rfl) ?_
    refine b_calli (va_runV (As := [.int (nI (54 * b9 + 469))]) (rest := []) ⟨hx, hb, hml, hown, hts⟩ (r_readsE l G g hg f ab2 be2 sn wn sa ly rdy (nI fd) ss sp wi wa (54 * b9 + 469) l9 hmo hss_ hsp_ hwi_ hwa_ (by first | assumption | omega | decide) (hl8) (by first | assumption | omega | decide)) (my_cwV hts ok_X11_reads w_345 rfl rfl ⟨Nat.le_of_ble_eq_true rfl, Nat.le_of_ble_eq_true rfl⟩) ⟨bP.blind, va_recv hG.1 hP (ci := 10) (q0 := 315) rfl (wl_at (by decide) hmo), fun U hU hW => ⟨rfl, by rw [hU]; exact hP, kG.warm hW hG⟩⟩ rfl rfl hl.1 rfl (lv_room (Nat.le_of_ble_eq_true rfl)) dX11_whom_69 ⟨Nat.le_of_ble_eq_true rfl, Nat.le_of_ble_eq_true rfl⟩) hS (fun v2 f_2 H locs hq9 hP hS => ?_)
    obtain ⟨sn93, wn94, sp95, wi96, wa97, rfl, hq_2_0, hq_2_1, hq_2_2, hq_2_3, hx_2_0, hx_2_1, o_2⟩ := hq9
    have hmo : f_2 315 = eO 10 [.ref (g 316), .ref (g 317), .ref (g 318), .long ab2, .long be2, .int (nI sn93), .ref (g 319), .ref (g 320), .int (nI wn94), .ref (g 321), .ref (g 322), .int sa, .int ly, .int rdy, .int (nI fd), .ref (g 323), .ref (g 324), .ref (g 325), .ref (g 326), .ref (g 327), .ref (g 328), .ref (g 329), .ref (g 330), .ref (g 331), .ref (g 332)] := hq_2_0
    have hsp_ : f_2 319 = eI G 70 sp95 := hq_2_1
    have hwi_ : f_2 320 = eI G 70 wi96 := hq_2_2
    have hwa_ : f_2 321 = eI G 70 wa97 := hq_2_3
    refine lv_pop hx hb dX11_whom_72 rfl ?_
    obtain ⟨hdp1, hdp2⟩ := hx_2_0 hl7
    have hst9 := hx_2_1 hl7
    have hgd := rdO_good hl9 hl7
    have hlen9 : (rdO l9 (fun k => ss (54 * b9 + 469 + k + 1))).length = sn93 := by
      have h9 := congrArg List.length hst9
      rw [stp_len] at h9
      exact h9.symm
    refine lv_iconst (v := 0) hx hb dX11_whom_73 (by decide) ?_
    refine lv_istore (lv' := [(6, .int 0), (5, .int (nI (54 * b9 + 469))), (4, .int (nI b9)), (0, .ref (g 315)), (1, .int 0), (2, .int q), (3, .int (-1))]) hx hb dX11_whom_74 hl (by decide) rfl (fun ls hl => ?_)
    refine lv_iconst (v := 0) hx hb dX11_whom_76 (by decide) ?_
    refine lv_istore (lv' := [(7, .int 0), (6, .int 0), (5, .int (nI (54 * b9 + 469))), (4, .int (nI b9)), (0, .ref (g 315)), (1, .int 0), (2, .int q), (3, .int (-1))]) hx hb dX11_whom_77 hl (by decide) rfl (fun ls hl => ?_)
    replace hss_ := ((o_2 316 (by first | decide | omega))).trans hss_
    replace hva_ := ((o_2 322 (by first | decide | omega))).trans hva_
    replace hju_ := ((o_2 324 (by first | decide | omega))).trans hju_
    have key8 : ∀ (n9_8 : Nat) (i : Nat) (u : Int32) (sa1 : Int32) (ly1 : Int32) (va1 : Nat → Int64) (f_3 : Nat → va_E) (H : Heap) (locs : List Loc) (ls : Array Slot), (i ≤ np) → (u = sO (fun p => decide (¬ (ev ((nvF (fun i c => ss (4 * i + c + 10)) (fun t c => ss (10 * t + c + 1546)) ju q fd) p) (rdO l9 (fun k => ss (54 * b9 + 469 + k + 1)))).headD 0 = 0)) i) → np - i < n9_8 → f_3 315 = eO 10 [.ref (g 316), .ref (g 317), .ref (g 318), .long ab2, .long be2, .int (nI sn93), .ref (g 319), .ref (g 320), .int (nI wn94), .ref (g 321), .ref (g 322), .int sa1, .int ly1, .int rdy, .int (nI fd), .ref (g 323), .ref (g 324), .ref (g 325), .ref (g 326), .ref (g 327), .ref (g 328), .ref (g 329), .ref (g 330), .ref (g 331), .ref (g 332)] → f_3 316 = eI G 2246 ss → f_3 319 = eI G 70 sp95 → f_3 320 = eI G 70 wi96 → f_3 321 = eI G 70 wa97 → f_3 322 = eJ G 70 va1 → f_3 324 = eI G 11 ju → (∀ j, (j ≠ 315 ∧ j ≠ 322) → f_3 j = f_2 j) → va_P G.1 vwCl (wl g f_3) H → va_S (gA g) s.heap H locs → lv_has ls 8 [(0, .ref (g 315)), (2, .int q), (6, .int u), (7, .int (nI i))] → W p l e (headSpec (wsT yX11_whom cX11_whom 8 (some .int)) ({ frames := 4, cells := 0, slots := 0, locals := 93 })).room s m ([.ref (g 315), .int 0, .int q, .int (-1)] : List Value).toArray below meth c H locs 0 0 Q9 (F0 m 79 ls []) := by
      intro n9_8
      induction n9_8 with
      | zero => intro i u sa1 ly1 va1 f_3 H locs ls hi hu hn9_8; exact absurd hn9_8 (Nat.not_lt_zero _)
      | succ n9_8 ih_8 =>
        intro i u sa1 ly1 va1 f_3 H locs ls hi hu hn9_8 hmo hss_ hsp_ hwi_ hwa_ hva_ hju_ o_3 hP hS hl
        refine lv_iload hx hb dX11_whom_79 (lv_at hl 3 rfl) ?_
        refine lv_aload_n hx hb dX11_whom_81 rfl (lv_at hl 0 rfl) ?_
        refine va_get (D := G.1) (ci := 10) (v := .ref (g 316)) (C := RX11) (T := TX11) (N := 25) hx hb hts inlX11 hown hG.1 hP 315 (wl_at (by decide) hmo) rfl 0 (by decide) (hts (.fieldLink RX11 7 "SwornListsModel" "st" "[I") w_112) (fun _ h9 => h9) rfl dX11_whom_82 ?_
        refine lv_iconst (v := 0) hx hb dX11_whom_85 (by decide) ?_
        refine va_iald hx hb hG.1 hP 316 0 (wl_at (by decide) hss_) rfl (by unfold vp_in; decide) dX11_whom_86 ?_
        refine my_bei (v := ss 0) (rfl) ?_
        refine my_bei (v := nI np) (hst.h0) ?_
        refine lv_icmp_ge (tgt := 121) hx hb dX11_whom_87 (by decide) (fun c_87 => ?_) (fun c_87 => ?_)
        · have k_87 : np ≤ i := (nI_leI (a := np) (b := i) (by omega) (by omega)).mp c_87
          refine lv_iload hx hb dX11_whom_121 (lv_at hl 2 rfl) ?_
          refine W_q9 hQ9 ?_
          exact W.iret (v := u) hx hb hr (fun _ hT9 _ => ⟨⟨_, f_3, rfl, (⟨(nI sn93), (nI wn94), sa1, ly1, sp95, wi96, wa97, va1, by rw [show fcB (fun i c => ss (54 * i + c + 466)) 0 q na = some b9 from hx_1_1]; show _ = sO (fun p => decide (¬ (ev ((nvF (fun i c => ss (4 * i + c + 10)) (fun t c => ss (10 * t + c + 1546)) ju q fd) p) (rdO (ss (54 * b9 + 469)).toNatClampNeg (fun k => ss (54 * b9 + 469 + k + 1)))).headD 0 = 0)) np; rw [nI_b9 hl8 (by omega), hu, show i = np by omega], hmo, hsp_, hwi_, hwa_, hva_, fun j hj => ((o_3 j (by omega))).trans (o_2 j (by omega))⟩), by rw [hT9]; exact hP⟩, hS.F hT9⟩) hS.2.2 dX11_whom_123
        · have k_87 : ¬ np ≤ i := fun z9 => c_87 ((nI_leI (a := np) (b := i) (by omega) (by omega)).mpr z9)
          refine lv_iload hx hb dX11_whom_90 (lv_at hl 2 rfl) ?_
          refine lv_aload_n hx hb dX11_whom_92 rfl (lv_at hl 0 rfl) ?_
          refine lv_iload hx hb dX11_whom_93 (lv_at hl 3 rfl) ?_
          refine lv_iload_n hx hb dX11_whom_95 rfl (lv_at hl 1 rfl) ?_
          refine b_calll (va_runV (As := [.int (nI i), .int q]) (rest := [.int u]) ⟨hx, hb, hml, hown, hts⟩ (r_tellsOfE l G g hg f_3 ab2 be2 sn93 (nI wn94) sa1 ly1 rdy fd ss ju sp95 wi96 va1 i (rdO l9 (fun k => ss (54 * b9 + 469 + k + 1))) q hmo hss_ hsp_ hwi_ hva_ hju_ (by first | assumption | omega | decide) (by first | assumption | omega | decide) (by omega) (hst9) (hlen9) (hgd.1) (hgd.2) (hdy) (hmo2)) (my_cwV hts ok_X11_tellsOf w_544 rfl rfl ⟨Nat.le_of_ble_eq_true rfl, Nat.le_of_ble_eq_true rfl⟩) ⟨bP.blind, va_recv hG.1 hP (ci := 10) (q0 := 315) rfl (wl_at (by decide) hmo), fun U hU hW => ⟨rfl, by rw [hU]; exact hP, kG.warm hW hG⟩⟩ rfl rfl hl.1 rfl (lv_room (Nat.le_of_ble_eq_true rfl)) dX11_whom_96 ⟨Nat.le_of_ble_eq_true rfl, Nat.le_of_ble_eq_true rfl⟩) hS (fun v9 f_4 H locs hq9 hP hS => ?_)
          obtain ⟨sa910, ly911, va912, rfl, hq_4_0, hq_4_1, o_4⟩ := hq9
          have hmo : f_4 315 = eO 10 [.ref (g 316), .ref (g 317), .ref (g 318), .long ab2, .long be2, .int (nI sn93), .ref (g 319), .ref (g 320), .int (nI wn94), .ref (g 321), .ref (g 322), .int sa910, .int ly911, .int rdy, .int (nI fd), .ref (g 323), .ref (g 324), .ref (g 325), .ref (g 326), .ref (g 327), .ref (g 328), .ref (g 329), .ref (g 330), .ref (g 331), .ref (g 332)] := hq_4_0
          have hva_ : f_4 322 = eJ G 70 va912 := hq_4_1
          refine lv_lconst (v := 0) hx hb dX11_whom_99 (by decide) ?_
          refine W.lcmp hx hb dX11_whom_100 ?_
          refine lv_if_eq (tgt := 111) hx hb dX11_whom_101 (by decide) (fun c_101 => ?_) (fun c_101 => ?_)
          · refine lv_iconst (v := 0) hx hb dX11_whom_111 (by decide) ?_
            refine lv_ior hx hb dX11_whom_112 ?_
            refine my_bei (v := u) (or0 u) ?_
            refine lv_istore (lv' := [(6, .int u), (0, .ref (g 315)), (2, .int q), (7, .int (nI i))]) hx hb dX11_whom_113 hl (by decide) rfl (fun ls hl => ?_)
            refine lv_iinc (v := nI (i + 1)) (lv' := [(7, .int (nI (i + 1))), (6, .int u), (0, .ref (g 315)), (2, .int q)]) hx hb dX11_whom_115 hl (k := 3) rfl (nI_add i 1) (by decide) rfl (fun ls hl => ?_)
            refine lv_goto (tgt := 79) hx hb dX11_whom_118 (by decide) ?_
            replace hss_ := ((o_4 316 (by first | decide | omega))).trans hss_
            replace hsp_ := ((o_4 319 (by first | decide | omega))).trans hsp_
            replace hwi_ := ((o_4 320 (by first | decide | omega))).trans hwi_
            replace hwa_ := ((o_4 321 (by first | decide | omega))).trans hwa_
            replace hju_ := ((o_4 324 (by first | decide | omega))).trans hju_
            exact ih_8 (i + 1) u sa910 ly911 va912 f_4 _ _ _ (by omega) (by rw [hu, sO_n (q := (fun p => decide (¬ (ev ((nvF (fun i c => ss (4 * i + c + 10)) (fun t c => ss (10 * t + c + 1546)) ju q fd) p) (rdO l9 (fun k => ss (54 * b9 + 469 + k + 1)))).headD 0 = 0))) (fun z => of_decide_eq_true z ((lg_cmp_eq _ _).mp c_101))]) (by omega) (hmo) (hss_) (hsp_) (hwi_) (hwa_) (hva_) (hju_) (fun j hj => ((o_4 j (by omega))).trans (o_3 j (by omega))) hP hS (lv_sub hl [2, 3, 1, 0] rfl)
          · refine lv_iconst (v := 1) hx hb dX11_whom_104 (by decide) ?_
            refine lv_iload hx hb dX11_whom_105 (lv_at hl 3 rfl) ?_
            refine lv_ishl hx hb dX11_whom_107 ?_
            refine lv_goto (tgt := 112) hx hb dX11_whom_108 (by decide) ?_
            refine lv_ior hx hb dX11_whom_112 ?_
            refine lv_istore (lv' := [(6, .int (u ||| (1 <<< ((nI i) &&& 31)))), (0, .ref (g 315)), (2, .int q), (7, .int (nI i))]) hx hb dX11_whom_113 hl (by decide) rfl (fun ls hl => ?_)
            refine lv_iinc (v := nI (i + 1)) (lv' := [(7, .int (nI (i + 1))), (6, .int (u ||| (1 <<< ((nI i) &&& 31)))), (0, .ref (g 315)), (2, .int q)]) hx hb dX11_whom_115 hl (k := 3) rfl (nI_add i 1) (by decide) rfl (fun ls hl => ?_)
            refine lv_goto (tgt := 79) hx hb dX11_whom_118 (by decide) ?_
            replace hss_ := ((o_4 316 (by first | decide | omega))).trans hss_
            replace hsp_ := ((o_4 319 (by first | decide | omega))).trans hsp_
            replace hwi_ := ((o_4 320 (by first | decide | omega))).trans hwi_
            replace hwa_ := ((o_4 321 (by first | decide | omega))).trans hwa_
            replace hju_ := ((o_4 324 (by first | decide | omega))).trans hju_
            exact ih_8 (i + 1) (u ||| (1 <<< ((nI i) &&& 31))) sa910 ly911 va912 f_4 _ _ _ (by omega) (by rw [hu, sO_y (q := (fun p => decide (¬ (ev ((nvF (fun i c => ss (4 * i + c + 10)) (fun t c => ss (10 * t + c + 1546)) ju q fd) p) (rdO l9 (fun k => ss (54 * b9 + 469 + k + 1)))).headD 0 = 0))) (decide_eq_true (fun z => c_101 ((lg_cmp_eq _ _).mpr z)))]; rfl) (by omega) (hmo) (hss_) (hsp_) (hwi_) (hwa_) (hva_) (hju_) (fun j hj => ((o_4 j (by omega))).trans (o_3 j (by omega))) hP hS (lv_sub hl [2, 3, 1, 0] rfl)
    exact key8 (np + 1) 0 0 sa ly va f_2 _ _ _ (Nat.zero_le _) (rfl) (by omega) (hmo) (hss_) (hsp_) (hwi_) (hwa_) (hva_) (hju_) (fun j _ => rfl) hP hS (lv_sub hl [4, 6, 1, 0] rfl)
  · refine lv_iconst (v := (-1)) hx hb dX11_whom_30 (by decide) ?_
    refine lv_goto (tgt := 45) hx hb dX11_whom_31 (by decide) ?_
    refine lv_istore (lv' := [(5, .int (-1)), (4, .int (fo o91)), (0, .ref (g 315)), (1, .int 0), (2, .int q), (3, .int (-1))]) hx hb dX11_whom_45 hl (by decide) rfl (fun ls hl => ?_)
    refine lv_iload hx hb dX11_whom_47 (lv_at hl 0 rfl) ?_
    refine lv_iconst (v := (-1)) hx hb dX11_whom_49 (by decide) ?_
    refine lv_icmp_ne (tgt := 66) hx hb dX11_whom_50 (by decide) (fun c_50 => absurd (by decide) c_50) (fun c_50 => ?_)
    refine lv_iload_n hx hb dX11_whom_53 rfl (lv_at hl 3 rfl) ?_
    refine lv_if_ne (tgt := 64) hx hb dX11_whom_54 (by decide) (fun c_54 => absurd (by decide) c_54) (fun c_54 => ?_)
    refine lv_aload_n hx hb dX11_whom_57 rfl (lv_at hl 2 rfl) ?_
    refine rd_calli (va_runV (As := []) (rest := []) ⟨hx, hb, hml, hown, hts⟩ (r_people l G g hg f ab2 be2 sn wn sa ly rdy (nI fd) ss np hmo hss_ (hst.h0)) (my_cwV hts ok_X11_people w_213 rfl rfl ⟨Nat.le_of_ble_eq_true rfl, Nat.le_of_ble_eq_true rfl⟩) ⟨bP.blind, va_recv hG.1 hP (ci := 10) (q0 := 315) rfl (wl_at (by decide) hmo), fun U hU hW => ⟨rfl, by rw [hU]; exact hP, kG.warm hW hG⟩⟩ rfl rfl hl.1 rfl (lv_room (Nat.le_of_ble_eq_true rfl)) dX11_whom_58 ⟨Nat.le_of_ble_eq_true rfl, Nat.le_of_ble_eq_true rfl⟩) (fun r hr9 => ?_)
    subst hr9
    refine lv_goto (tgt := 65) hx hb dX11_whom_61 (by decide) ?_
    refine W_q9 hQ9 ?_
    exact W.iret (v := (1 <<< (nI np &&& 31)) - 1) hx hb hr (fun _ hT9 _ => ⟨⟨_, f, rfl, (⟨sn, wn, sa, ly, sp, wi, wa, va, by rw [show fcB (fun i c => ss (54 * i + c + 466)) 0 q na = none from hx_1_1.trans (fo_none (N := 20) (by omega) (fun z hz => Nat.lt_of_lt_of_le (hx_1_0 z hz) hc3) c_27)]; rfl, hmo, hsp_, hwi_, hwa_, hva_, fun j hj => rfl⟩), by rw [hT9]; exact hP⟩, hS.F hT9⟩) hS.2.2 dX11_whom_65
set_option maxHeartbeats 4000000 in
set_option maxRecDepth 100000 in
theorem r_whomE1 (l : Launch) (G : gW) (g : Nat → Nat) (hg : gOK g) (f : Nat → va_E) (ab2 : Int64) (be2 : Int64) (sn : Int32) (wn : Int32) (sa : Int32) (ly : Int32) (rdy : Int32) (fd : Nat) (ss : Nat → Int32) (np : Nat) (nf : Nat) (nr : Nat) (na : Nat) (nt : Nat) (sp : Nat → Int32) (wi : Nat → Int32) (wa : Nat → Int32) (va : Nat → Int64) (ju : Nat → Int32) (q : Int32) (hmo : f 315 = eO 10 [.ref (g 316), .ref (g 317), .ref (g 318), .long ab2, .long be2, .int sn, .ref (g 319), .ref (g 320), .int wn, .ref (g 321), .ref (g 322), .int sa, .int ly, .int rdy, .int (nI fd), .ref (g 323), .ref (g 324), .ref (g 325), .ref (g 326), .ref (g 327), .ref (g 328), .ref (g 329), .ref (g 330), .ref (g 331), .ref (g 332)]) (hss_ : f 316 = eI G 2246 ss) (hsp_ : f 319 = eI G 70 sp) (hwi_ : f 320 = eI G 70 wi) (hwa_ : f 321 = eI G 70 wa) (hva_ : f 322 = eJ G 70 va) (hju_ : f 324 = eI G 11 ju) (hst : stOK ss np nf nr na nt) (hfo : fd ≤ 10) (hdy : ∀ o, o < fd → 0 ≤ (fun t c => ss (10 * t + c + 1546)) o 0) (hmo2 : ∀ o o', o ≤ o' → o' < fd → (fun t c => ss (10 * t + c + 1546)) o 0 ≤ (fun t c => ss (10 * t + c + 1546)) o' 0) : Met l yX11_whom (wsT yX11_whom cX11_whom 8 (some .int)) ({ frames := 4, cells := 0, slots := 0, locals := 93 }) (bP G g f [.ref (g 315), .int 1, .int q, .int (-1)]) (bQi G g (fun (z9 : Int32) (f' : Nat → va_E) => ∃ sn9 : Int32, ∃ wn9 : Int32, ∃ sa9 : Int32, ∃ ly9 : Int32, ∃ sp9 : Nat → Int32, ∃ wi9 : Nat → Int32, ∃ wa9 : Nat → Int32, ∃ va9 : Nat → Int64, z9 = whV np (nvF (fun i c => ss (4 * i + c + 10)) (fun t c => ss (10 * t + c + 1546)) ju q fd) 0 ((fcB (fun i c => ss (54 * i + c + 466)) 1 q na).map (rL ss)) ∧ f' 315 = eO 10 [.ref (g 316), .ref (g 317), .ref (g 318), .long ab2, .long be2, .int sn9, .ref (g 319), .ref (g 320), .int wn9, .ref (g 321), .ref (g 322), .int sa9, .int ly9, .int rdy, .int (nI fd), .ref (g 323), .ref (g 324), .ref (g 325), .ref (g 326), .ref (g 327), .ref (g 328), .ref (g 329), .ref (g 330), .ref (g 331), .ref (g 332)] ∧ f' 319 = eI G 70 sp9 ∧ f' 320 = eI G 70 wi9 ∧ f' 321 = eI G 70 wa9 ∧ f' 322 = eJ G 70 va9 ∧ ∀ j, (j ≠ 315 ∧ j ≠ 319 ∧ j ≠ 320 ∧ j ≠ 321 ∧ j ≠ 322) → f' j = f j)) 0 0 (gA g) := by
  refine Met.ofW (cc := cX11_whom) (maxL := 8) (ret := (some .int)) (by decide) rfl ?_
  intro p e s m args below meth c s₁ B hml hv
  obtain ⟨rfl, hP, hG⟩ := hv
  have hx := B.exec
  have hb := B.bytes
  have hr := B.returns
  have hts := my_hts (atoms_spec (ws := wsT yX11_whom cX11_whom 8 (some .int)) B.pre)
  have hown : s.vm.findClass RX11 = some m.cls := findClass_of_methodNamed B.named
  have hlocks := B.notSynchronized
  have hS : va_S (gA g) s.heap s.heap [] := va_S.rf
  have hl := lv_entry ([.ref (g 315), .int 1, .int q, .int (-1)]) (n := 8) (Nat.le_of_ble_eq_true rfl)
  rw [lg_entry_eq]
  generalize (lg_sl ([.ref (g 315), .int 1, .int q, .int (-1)]) ++ List.replicate (8 - (lg_sl ([.ref (g 315), .int 1, .int q, .int (-1)])).length) Slot.unset).toArray = ls at hl ⊢
  have hl : lv_has ls 8 [(0, .ref (g 315)), (1, .int 1), (2, .int q), (3, .int (-1))] := hl
  refine W_q8 (fun Q9 hQ9 => ?_)
  have hc0 := hst.c0
  have hc1 := hst.c1
  have hc2 := hst.c2
  have hc3 := hst.c3
  have hc4 := hst.c4
  refine lv_aload_n hx hb dX11_whom_0 rfl (lv_at hl 0 rfl) ?_
  refine lv_iload_n hx hb dX11_whom_1 rfl (lv_at hl 1 rfl) ?_
  refine lv_iload_n hx hb dX11_whom_2 rfl (lv_at hl 2 rfl) ?_
  refine rd_calli (va_runV (As := [.int 1, .int q]) (rest := []) ⟨hx, hb, hml, hown, hts⟩ (r_inForceE l G g hg f ab2 be2 sn wn sa ly rdy (nI fd) ss np nf nr na nt 1 q hmo hss_ (by first | assumption | omega | decide)) (my_cwV hts ok_X11_inForce w_540 rfl rfl ⟨Nat.le_of_ble_eq_true rfl, Nat.le_of_ble_eq_true rfl⟩) ⟨bP.blind, va_recv hG.1 hP (ci := 10) (q0 := 315) rfl (wl_at (by decide) hmo), fun U hU hW => ⟨rfl, by rw [hU]; exact hP, kG.warm hW hG⟩⟩ rfl rfl hl.1 rfl (lv_room (Nat.le_of_ble_eq_true rfl)) dX11_whom_3 ⟨Nat.le_of_ble_eq_true rfl, Nat.le_of_ble_eq_true rfl⟩) (fun r hr9 => ?_)
  obtain ⟨o91, rfl, hx_1_0, hx_1_1⟩ := hr9
  refine lv_istore (lv' := [(4, .int (fo o91)), (0, .ref (g 315)), (1, .int 1), (2, .int q), (3, .int (-1))]) hx hb dX11_whom_6 hl (by decide) rfl (fun ls hl => ?_)
  refine lv_iload_n hx hb dX11_whom_8 rfl (lv_at hl 4 rfl) ?_
  refine lv_iconst (v := (-1)) hx hb dX11_whom_9 (by decide) ?_
  refine lv_icmp_eq (tgt := 24) hx hb dX11_whom_10 (by decide) (fun c_10 => ?_) (fun c_10 => absurd (by decide) c_10)
  refine lv_iload hx hb dX11_whom_24 (lv_at hl 0 rfl) ?_
  refine lv_iconst (v := (-1)) hx hb dX11_whom_26 (by decide) ?_
  refine lv_icmp_ne (tgt := 34) hx hb dX11_whom_27 (by decide) (fun c_27 => ?_) (fun c_27 => ?_)
  · obtain ⟨b9, rfl⟩ : ∃ b, o91 = some b := by
      cases o91 with
      | none => exact absurd rfl c_27
      | some z => exact ⟨z, rfl⟩
    have hb9 := hx_1_0 b9 rfl
    obtain ⟨l9, hl9, hl8, hl7⟩ := hst.ac b9 hb9
    refine lv_sipush (v := 466) hx hb dX11_whom_34 (by decide) ?_
    refine lv_bipush (v := 54) hx hb dX11_whom_37 (by decide) ?_
    refine lv_iload hx hb dX11_whom_39 (lv_at hl 0 rfl) ?_
    refine lv_imul hx hb dX11_whom_41 ?_
    refine my_bei (v := nI (54 * b9)) (pk_mul 54 b9) ?_
    refine lv_iadd hx hb dX11_whom_42 ?_
    refine my_bei (v := nI (54 * b9 + 466)) ((nI_add 466 (54 * b9)).trans (congrArg nI (show 466 + (54 * b9) = 54 * b9 + 466 by omega))) ?_
    refine lv_iconst (v := 3) hx hb dX11_whom_43 (by decide) ?_
    refine lv_iadd hx hb dX11_whom_44 ?_
    refine my_bei (v := nI (54 * b9 + 469)) ((nI_add (54 * b9 + 466) 3).trans (congrArg nI (show (54 * b9 + 466) + 3 = 54 * b9 + 469 by omega))) ?_
    refine lv_istore (lv' := [(5, .int (nI (54 * b9 + 469))), (4, .int (nI b9)), (0, .ref (g 315)), (1, .int 1), (2, .int q), (3, .int (-1))]) hx hb dX11_whom_45 hl (by decide) rfl (fun ls hl => ?_)
    refine lv_iload hx hb dX11_whom_47 (lv_at hl 0 rfl) ?_
    refine lv_iconst (v := (-1)) hx hb dX11_whom_49 (by decide) ?_
    refine lv_icmp_ne (tgt := 66) hx hb dX11_whom_50 (by decide) (fun c_50 => ?_) (fun c_50 => absurd c_50 (nI_m1 (by omega)))
    refine lv_aload_n hx hb dX11_whom_66 rfl (lv_at hl 2 rfl) ?_
    refine lv_iload hx hb dX11_whom_67 (lv_at hl 0 rfl) ?_
    refine b_calli (va_runV (As := [.int (nI (54 * b9 + 469))]) (rest := []) ⟨hx, hb, hml, hown, hts⟩ (r_readsE l G g hg f ab2 be2 sn wn sa ly rdy (nI fd) ss sp wi wa (54 * b9 + 469) l9 hmo hss_ hsp_ hwi_ hwa_ (by first | assumption | omega | decide) (hl8) (by first | assumption | omega | decide)) (my_cwV hts ok_X11_reads w_345 rfl rfl ⟨Nat.le_of_ble_eq_true rfl, Nat.le_of_ble_eq_true rfl⟩) ⟨bP.blind, va_recv hG.1 hP (ci := 10) (q0 := 315) rfl (wl_at (by decide) hmo), fun U hU hW => ⟨rfl, by rw [hU]; exact hP, kG.warm hW hG⟩⟩ rfl rfl hl.1 rfl (lv_room (Nat.le_of_ble_eq_true rfl)) dX11_whom_69 ⟨Nat.le_of_ble_eq_true rfl, Nat.le_of_ble_eq_true rfl⟩) hS (fun v2 f_2 H locs hq9 hP hS => ?_)
    obtain ⟨sn93, wn94, sp95, wi96, wa97, rfl, hq_2_0, hq_2_1, hq_2_2, hq_2_3, hx_2_0, hx_2_1, o_2⟩ := hq9
    have hmo : f_2 315 = eO 10 [.ref (g 316), .ref (g 317), .ref (g 318), .long ab2, .long be2, .int (nI sn93), .ref (g 319), .ref (g 320), .int (nI wn94), .ref (g 321), .ref (g 322), .int sa, .int ly, .int rdy, .int (nI fd), .ref (g 323), .ref (g 324), .ref (g 325), .ref (g 326), .ref (g 327), .ref (g 328), .ref (g 329), .ref (g 330), .ref (g 331), .ref (g 332)] := hq_2_0
    have hsp_ : f_2 319 = eI G 70 sp95 := hq_2_1
    have hwi_ : f_2 320 = eI G 70 wi96 := hq_2_2
    have hwa_ : f_2 321 = eI G 70 wa97 := hq_2_3
    refine lv_pop hx hb dX11_whom_72 rfl ?_
    obtain ⟨hdp1, hdp2⟩ := hx_2_0 hl7
    have hst9 := hx_2_1 hl7
    have hgd := rdO_good hl9 hl7
    have hlen9 : (rdO l9 (fun k => ss (54 * b9 + 469 + k + 1))).length = sn93 := by
      have h9 := congrArg List.length hst9
      rw [stp_len] at h9
      exact h9.symm
    refine lv_iconst (v := 0) hx hb dX11_whom_73 (by decide) ?_
    refine lv_istore (lv' := [(6, .int 0), (5, .int (nI (54 * b9 + 469))), (4, .int (nI b9)), (0, .ref (g 315)), (1, .int 1), (2, .int q), (3, .int (-1))]) hx hb dX11_whom_74 hl (by decide) rfl (fun ls hl => ?_)
    refine lv_iconst (v := 0) hx hb dX11_whom_76 (by decide) ?_
    refine lv_istore (lv' := [(7, .int 0), (6, .int 0), (5, .int (nI (54 * b9 + 469))), (4, .int (nI b9)), (0, .ref (g 315)), (1, .int 1), (2, .int q), (3, .int (-1))]) hx hb dX11_whom_77 hl (by decide) rfl (fun ls hl => ?_)
    replace hss_ := ((o_2 316 (by first | decide | omega))).trans hss_
    replace hva_ := ((o_2 322 (by first | decide | omega))).trans hva_
    replace hju_ := ((o_2 324 (by first | decide | omega))).trans hju_
    have key8 : ∀ (n9_8 : Nat) (i : Nat) (u : Int32) (sa1 : Int32) (ly1 : Int32) (va1 : Nat → Int64) (f_3 : Nat → va_E) (H : Heap) (locs : List Loc) (ls : Array Slot), (i ≤ np) → (u = sO (fun p => decide (¬ (ev ((nvF (fun i c => ss (4 * i + c + 10)) (fun t c => ss (10 * t + c + 1546)) ju q fd) p) (rdO l9 (fun k => ss (54 * b9 + 469 + k + 1)))).headD 0 = 0)) i) → np - i < n9_8 → f_3 315 = eO 10 [.ref (g 316), .ref (g 317), .ref (g 318), .long ab2, .long be2, .int (nI sn93), .ref (g 319), .ref (g 320), .int (nI wn94), .ref (g 321), .ref (g 322), .int sa1, .int ly1, .int rdy, .int (nI fd), .ref (g 323), .ref (g 324), .ref (g 325), .ref (g 326), .ref (g 327), .ref (g 328), .ref (g 329), .ref (g 330), .ref (g 331), .ref (g 332)] → f_3 316 = eI G 2246 ss → f_3 319 = eI G 70 sp95 → f_3 320 = eI G 70 wi96 → f_3 321 = eI G 70 wa97 → f_3 322 = eJ G 70 va1 → f_3 324 = eI G 11 ju → (∀ j, (j ≠ 315 ∧ j ≠ 322) → f_3 j = f_2 j) → va_P G.1 vwCl (wl g f_3) H → va_S (gA g) s.heap H locs → lv_has ls 8 [(0, .ref (g 315)), (2, .int q), (6, .int u), (7, .int (nI i))] → W p l e (headSpec (wsT yX11_whom cX11_whom 8 (some .int)) ({ frames := 4, cells := 0, slots := 0, locals := 93 })).room s m ([.ref (g 315), .int 1, .int q, .int (-1)] : List Value).toArray below meth c H locs 0 0 Q9 (F0 m 79 ls []) := by
      intro n9_8
      induction n9_8 with
      | zero => intro i u sa1 ly1 va1 f_3 H locs ls hi hu hn9_8; exact absurd hn9_8 (Nat.not_lt_zero _)
      | succ n9_8 ih_8 =>
        intro i u sa1 ly1 va1 f_3 H locs ls hi hu hn9_8 hmo hss_ hsp_ hwi_ hwa_ hva_ hju_ o_3 hP hS hl
        refine lv_iload hx hb dX11_whom_79 (lv_at hl 3 rfl) ?_
        refine lv_aload_n hx hb dX11_whom_81 rfl (lv_at hl 0 rfl) ?_
        refine va_get (D := G.1) (ci := 10) (v := .ref (g 316)) (C := RX11) (T := TX11) (N := 25) hx hb hts inlX11 hown hG.1 hP 315 (wl_at (by decide) hmo) rfl 0 (by decide) (hts (.fieldLink RX11 7 "SwornListsModel" "st" "[I") w_112) (fun _ h9 => h9) rfl dX11_whom_82 ?_
        refine lv_iconst (v := 0) hx hb dX11_whom_85 (by decide) ?_
        refine va_iald hx hb hG.1 hP 316 0 (wl_at (by decide) hss_) rfl (by unfold vp_in; decide) dX11_whom_86 ?_
        refine my_bei (v := ss 0) (rfl) ?_
        refine my_bei (v := nI np) (hst.h0) ?_
        refine lv_icmp_ge (tgt := 121) hx hb dX11_whom_87 (by decide) (fun c_87 => ?_) (fun c_87 => ?_)
        · have k_87 : np ≤ i := (nI_leI (a := np) (b := i) (by omega) (by omega)).mp c_87
          refine lv_iload hx hb dX11_whom_121 (lv_at hl 2 rfl) ?_
          refine W_q9 hQ9 ?_
          exact W.iret (v := u) hx hb hr (fun _ hT9 _ => ⟨⟨_, f_3, rfl, (⟨(nI sn93), (nI wn94), sa1, ly1, sp95, wi96, wa97, va1, by rw [show fcB (fun i c => ss (54 * i + c + 466)) 1 q na = some b9 from hx_1_1]; show _ = sO (fun p => decide (¬ (ev ((nvF (fun i c => ss (4 * i + c + 10)) (fun t c => ss (10 * t + c + 1546)) ju q fd) p) (rdO (ss (54 * b9 + 469)).toNatClampNeg (fun k => ss (54 * b9 + 469 + k + 1)))).headD 0 = 0)) np; rw [nI_b9 hl8 (by omega), hu, show i = np by omega], hmo, hsp_, hwi_, hwa_, hva_, fun j hj => ((o_3 j (by omega))).trans (o_2 j (by omega))⟩), by rw [hT9]; exact hP⟩, hS.F hT9⟩) hS.2.2 dX11_whom_123
        · have k_87 : ¬ np ≤ i := fun z9 => c_87 ((nI_leI (a := np) (b := i) (by omega) (by omega)).mpr z9)
          refine lv_iload hx hb dX11_whom_90 (lv_at hl 2 rfl) ?_
          refine lv_aload_n hx hb dX11_whom_92 rfl (lv_at hl 0 rfl) ?_
          refine lv_iload hx hb dX11_whom_93 (lv_at hl 3 rfl) ?_
          refine lv_iload_n hx hb dX11_whom_95 rfl (lv_at hl 1 rfl) ?_
          refine b_calll (va_runV (As := [.int (nI i), .int q]) (rest := [.int u]) ⟨hx, hb, hml, hown, hts⟩ (r_tellsOfE l G g hg f_3 ab2 be2 sn93 (nI wn94) sa1 ly1 rdy fd ss ju sp95 wi96 va1 i (rdO l9 (fun k => ss (54 * b9 + 469 + k + 1))) q hmo hss_ hsp_ hwi_ hva_ hju_ (by first | assumption | omega | decide) (by first | assumption | omega | decide) (by omega) (hst9) (hlen9) (hgd.1) (hgd.2) (hdy) (hmo2)) (my_cwV hts ok_X11_tellsOf w_544 rfl rfl ⟨Nat.le_of_ble_eq_true rfl, Nat.le_of_ble_eq_true rfl⟩) ⟨bP.blind, va_recv hG.1 hP (ci := 10) (q0 := 315) rfl (wl_at (by decide) hmo), fun U hU hW => ⟨rfl, by rw [hU]; exact hP, kG.warm hW hG⟩⟩ rfl rfl hl.1 rfl (lv_room (Nat.le_of_ble_eq_true rfl)) dX11_whom_96 ⟨Nat.le_of_ble_eq_true rfl, Nat.le_of_ble_eq_true rfl⟩) hS (fun v9 f_4 H locs hq9 hP hS => ?_)
          obtain ⟨sa910, ly911, va912, rfl, hq_4_0, hq_4_1, o_4⟩ := hq9
          have hmo : f_4 315 = eO 10 [.ref (g 316), .ref (g 317), .ref (g 318), .long ab2, .long be2, .int (nI sn93), .ref (g 319), .ref (g 320), .int (nI wn94), .ref (g 321), .ref (g 322), .int sa910, .int ly911, .int rdy, .int (nI fd), .ref (g 323), .ref (g 324), .ref (g 325), .ref (g 326), .ref (g 327), .ref (g 328), .ref (g 329), .ref (g 330), .ref (g 331), .ref (g 332)] := hq_4_0
          have hva_ : f_4 322 = eJ G 70 va912 := hq_4_1
          refine lv_lconst (v := 0) hx hb dX11_whom_99 (by decide) ?_
          refine W.lcmp hx hb dX11_whom_100 ?_
          refine lv_if_eq (tgt := 111) hx hb dX11_whom_101 (by decide) (fun c_101 => ?_) (fun c_101 => ?_)
          · refine lv_iconst (v := 0) hx hb dX11_whom_111 (by decide) ?_
            refine lv_ior hx hb dX11_whom_112 ?_
            refine my_bei (v := u) (or0 u) ?_
            refine lv_istore (lv' := [(6, .int u), (0, .ref (g 315)), (2, .int q), (7, .int (nI i))]) hx hb dX11_whom_113 hl (by decide) rfl (fun ls hl => ?_)
            refine lv_iinc (v := nI (i + 1)) (lv' := [(7, .int (nI (i + 1))), (6, .int u), (0, .ref (g 315)), (2, .int q)]) hx hb dX11_whom_115 hl (k := 3) rfl (nI_add i 1) (by decide) rfl (fun ls hl => ?_)
            refine lv_goto (tgt := 79) hx hb dX11_whom_118 (by decide) ?_
            replace hss_ := ((o_4 316 (by first | decide | omega))).trans hss_
            replace hsp_ := ((o_4 319 (by first | decide | omega))).trans hsp_
            replace hwi_ := ((o_4 320 (by first | decide | omega))).trans hwi_
            replace hwa_ := ((o_4 321 (by first | decide | omega))).trans hwa_
            replace hju_ := ((o_4 324 (by first | decide | omega))).trans hju_
            exact ih_8 (i + 1) u sa910 ly911 va912 f_4 _ _ _ (by omega) (by rw [hu, sO_n (q := (fun p => decide (¬ (ev ((nvF (fun i c => ss (4 * i + c + 10)) (fun t c => ss (10 * t + c + 1546)) ju q fd) p) (rdO l9 (fun k => ss (54 * b9 + 469 + k + 1)))).headD 0 = 0))) (fun z => of_decide_eq_true z ((lg_cmp_eq _ _).mp c_101))]) (by omega) (hmo) (hss_) (hsp_) (hwi_) (hwa_) (hva_) (hju_) (fun j hj => ((o_4 j (by omega))).trans (o_3 j (by omega))) hP hS (lv_sub hl [2, 3, 1, 0] rfl)
          · refine lv_iconst (v := 1) hx hb dX11_whom_104 (by decide) ?_
            refine lv_iload hx hb dX11_whom_105 (lv_at hl 3 rfl) ?_
            refine lv_ishl hx hb dX11_whom_107 ?_
            refine lv_goto (tgt := 112) hx hb dX11_whom_108 (by decide) ?_
            refine lv_ior hx hb dX11_whom_112 ?_
            refine lv_istore (lv' := [(6, .int (u ||| (1 <<< ((nI i) &&& 31)))), (0, .ref (g 315)), (2, .int q), (7, .int (nI i))]) hx hb dX11_whom_113 hl (by decide) rfl (fun ls hl => ?_)
            refine lv_iinc (v := nI (i + 1)) (lv' := [(7, .int (nI (i + 1))), (6, .int (u ||| (1 <<< ((nI i) &&& 31)))), (0, .ref (g 315)), (2, .int q)]) hx hb dX11_whom_115 hl (k := 3) rfl (nI_add i 1) (by decide) rfl (fun ls hl => ?_)
            refine lv_goto (tgt := 79) hx hb dX11_whom_118 (by decide) ?_
            replace hss_ := ((o_4 316 (by first | decide | omega))).trans hss_
            replace hsp_ := ((o_4 319 (by first | decide | omega))).trans hsp_
            replace hwi_ := ((o_4 320 (by first | decide | omega))).trans hwi_
            replace hwa_ := ((o_4 321 (by first | decide | omega))).trans hwa_
            replace hju_ := ((o_4 324 (by first | decide | omega))).trans hju_
            exact ih_8 (i + 1) (u ||| (1 <<< ((nI i) &&& 31))) sa910 ly911 va912 f_4 _ _ _ (by omega) (by rw [hu, sO_y (q := (fun p => decide (¬ (ev ((nvF (fun i c => ss (4 * i + c + 10)) (fun t c => ss (10 * t + c + 1546)) ju q fd) p) (rdO l9 (fun k => ss (54 * b9 + 469 + k + 1)))).headD 0 = 0))) (decide_eq_true (fun z => c_101 ((lg_cmp_eq _ _).mpr z)))]; rfl) (by omega) (hmo) (hss_) (hsp_) (hwi_) (hwa_) (hva_) (hju_) (fun j hj => ((o_4 j (by omega))).trans (o_3 j (by omega))) hP hS (lv_sub hl [2, 3, 1, 0] rfl)
    exact key8 (np + 1) 0 0 sa ly va f_2 _ _ _ (Nat.zero_le _) (rfl) (by omega) (hmo) (hss_) (hsp_) (hwi_) (hwa_) (hva_) (hju_) (fun j _ => rfl) hP hS (lv_sub hl [4, 6, 1, 0] rfl)
  · refine lv_iconst (v := (-1)) hx hb dX11_whom_30 (by decide) ?_
    refine lv_goto (tgt := 45) hx hb dX11_whom_31 (by decide) ?_
    refine lv_istore (lv' := [(5, .int (-1)), (4, .int (fo o91)), (0, .ref (g 315)), (1, .int 1), (2, .int q), (3, .int (-1))]) hx hb dX11_whom_45 hl (by decide) rfl (fun ls hl => ?_)
    refine lv_iload hx hb dX11_whom_47 (lv_at hl 0 rfl) ?_
    refine lv_iconst (v := (-1)) hx hb dX11_whom_49 (by decide) ?_
    refine lv_icmp_ne (tgt := 66) hx hb dX11_whom_50 (by decide) (fun c_50 => absurd (by decide) c_50) (fun c_50 => ?_)
    refine lv_iload_n hx hb dX11_whom_53 rfl (lv_at hl 3 rfl) ?_
    refine lv_if_ne (tgt := 64) hx hb dX11_whom_54 (by decide) (fun c_54 => ?_) (fun c_54 => absurd c_54 (by decide))
    refine lv_iconst (v := 0) hx hb dX11_whom_64 (by decide) ?_
    refine W_q9 hQ9 ?_
    exact W.iret (v := 0) hx hb hr (fun _ hT9 _ => ⟨⟨_, f, rfl, (⟨sn, wn, sa, ly, sp, wi, wa, va, by rw [show fcB (fun i c => ss (54 * i + c + 466)) 1 q na = none from hx_1_1.trans (fo_none (N := 20) (by omega) (fun z hz => Nat.lt_of_lt_of_le (hx_1_0 z hz) hc3) c_27)]; rfl, hmo, hsp_, hwi_, hwa_, hva_, fun j hj => rfl⟩), by rw [hT9]; exact hP⟩, hS.F hT9⟩) hS.2.2 dX11_whom_65
set_option maxHeartbeats 4000000 in
set_option maxRecDepth 100000 in
theorem r_whomX0 (l : Launch) (G : gW) (g : Nat → Nat) (hg : gOK g) (f : Nat → va_E) (ab2 : Int64) (be2 : Int64) (sn : Int32) (wn : Int32) (sa : Int32) (ly : Int32) (rdy : Int32) (fd : Nat) (ss : Nat → Int32) (np : Nat) (nf : Nat) (nr : Nat) (na : Nat) (nt : Nat) (sp : Nat → Int32) (wi : Nat → Int32) (wa : Nat → Int32) (va : Nat → Int64) (ju : Nat → Int32) (q : Int32) (xt : Nat) (l9 : Nat) (hmo : f 315 = eO 10 [.ref (g 316), .ref (g 317), .ref (g 318), .long ab2, .long be2, .int sn, .ref (g 319), .ref (g 320), .int wn, .ref (g 321), .ref (g 322), .int sa, .int ly, .int rdy, .int (nI fd), .ref (g 323), .ref (g 324), .ref (g 325), .ref (g 326), .ref (g 327), .ref (g 328), .ref (g 329), .ref (g 330), .ref (g 331), .ref (g 332)]) (hss_ : f 316 = eI G 2246 ss) (hsp_ : f 319 = eI G 70 sp) (hwi_ : f 320 = eI G 70 wi) (hwa_ : f 321 = eI G 70 wa) (hva_ : f 322 = eJ G 70 va) (hju_ : f 324 = eI G 11 ju) (hst : stOK ss np nf nr na nt) (hfo : fd ≤ 10) (hxt : xt < 4) (hl8 : ss (51 * xt + 262) = nI l9) (hl9 : l9 ≤ 50) (hl7 : rdA l9 (fun k => ss (51 * xt + 262 + k + 1)) = -1) (hdy : ∀ o, o < fd → 0 ≤ (fun t c => ss (10 * t + c + 1546)) o 0) (hmo2 : ∀ o o', o ≤ o' → o' < fd → (fun t c => ss (10 * t + c + 1546)) o 0 ≤ (fun t c => ss (10 * t + c + 1546)) o' 0) : Met l yX11_whom (wsT yX11_whom cX11_whom 8 (some .int)) ({ frames := 4, cells := 0, slots := 0, locals := 93 }) (bP G g f [.ref (g 315), .int 0, .int q, .int (nI xt)]) (bQi G g (fun (z9 : Int32) (f' : Nat → va_E) => ∃ sn9 : Int32, ∃ wn9 : Int32, ∃ sa9 : Int32, ∃ ly9 : Int32, ∃ sp9 : Nat → Int32, ∃ wi9 : Nat → Int32, ∃ wa9 : Nat → Int32, ∃ va9 : Nat → Int64, z9 = whV np (nvF (fun i c => ss (4 * i + c + 10)) (fun t c => ss (10 * t + c + 1546)) ju q fd) ((1 <<< (nI np &&& 31)) - 1) (some (rdO l9 (fun k => ss (51 * xt + 262 + k + 1)))) ∧ f' 315 = eO 10 [.ref (g 316), .ref (g 317), .ref (g 318), .long ab2, .long be2, .int sn9, .ref (g 319), .ref (g 320), .int wn9, .ref (g 321), .ref (g 322), .int sa9, .int ly9, .int rdy, .int (nI fd), .ref (g 323), .ref (g 324), .ref (g 325), .ref (g 326), .ref (g 327), .ref (g 328), .ref (g 329), .ref (g 330), .ref (g 331), .ref (g 332)] ∧ f' 319 = eI G 70 sp9 ∧ f' 320 = eI G 70 wi9 ∧ f' 321 = eI G 70 wa9 ∧ f' 322 = eJ G 70 va9 ∧ ∀ j, (j ≠ 315 ∧ j ≠ 319 ∧ j ≠ 320 ∧ j ≠ 321 ∧ j ≠ 322) → f' j = f j)) 0 0 (gA g) := by
  refine Met.ofW (cc := cX11_whom) (maxL := 8) (ret := (some .int)) (by decide) rfl ?_
  intro p e s m args below meth c s₁ B hml hv
  obtain ⟨rfl, hP, hG⟩ := hv
  have hx := B.exec
  have hb := B.bytes
  have hr := B.returns
  have hts := my_hts (atoms_spec (ws := wsT yX11_whom cX11_whom 8 (some .int)) B.pre)
  have hown : s.vm.findClass RX11 = some m.cls := findClass_of_methodNamed B.named
  have hlocks := B.notSynchronized
  have hS : va_S (gA g) s.heap s.heap [] := va_S.rf
  have hl := lv_entry ([.ref (g 315), .int 0, .int q, .int (nI xt)]) (n := 8) (Nat.le_of_ble_eq_true rfl)
  rw [lg_entry_eq]
  generalize (lg_sl ([.ref (g 315), .int 0, .int q, .int (nI xt)]) ++ List.replicate (8 - (lg_sl ([.ref (g 315), .int 0, .int q, .int (nI xt)])).length) Slot.unset).toArray = ls at hl ⊢
  have hl : lv_has ls 8 [(0, .ref (g 315)), (1, .int 0), (2, .int q), (3, .int (nI xt))] := hl
  refine W_q8 (fun Q9 hQ9 => ?_)
  have hc0 := hst.c0
  have hc1 := hst.c1
  have hc2 := hst.c2
  have hc3 := hst.c3
  have hc4 := hst.c4
  refine lv_aload_n hx hb dX11_whom_0 rfl (lv_at hl 0 rfl) ?_
  refine lv_iload_n hx hb dX11_whom_1 rfl (lv_at hl 1 rfl) ?_
  refine lv_iload_n hx hb dX11_whom_2 rfl (lv_at hl 2 rfl) ?_
  refine rd_calli (va_runV (As := [.int 0, .int q]) (rest := []) ⟨hx, hb, hml, hown, hts⟩ (r_inForceE l G g hg f ab2 be2 sn wn sa ly rdy (nI fd) ss np nf nr na nt 0 q hmo hss_ (by first | assumption | omega | decide)) (my_cwV hts ok_X11_inForce w_540 rfl rfl ⟨Nat.le_of_ble_eq_true rfl, Nat.le_of_ble_eq_true rfl⟩) ⟨bP.blind, va_recv hG.1 hP (ci := 10) (q0 := 315) rfl (wl_at (by decide) hmo), fun U hU hW => ⟨rfl, by rw [hU]; exact hP, kG.warm hW hG⟩⟩ rfl rfl hl.1 rfl (lv_room (Nat.le_of_ble_eq_true rfl)) dX11_whom_3 ⟨Nat.le_of_ble_eq_true rfl, Nat.le_of_ble_eq_true rfl⟩) (fun r hr9 => ?_)
  obtain ⟨o91, rfl, hx_1_0, hx_1_1⟩ := hr9
  refine lv_istore (lv' := [(4, .int (fo o91)), (0, .ref (g 315)), (1, .int 0), (2, .int q), (3, .int (nI xt))]) hx hb dX11_whom_6 hl (by decide) rfl (fun ls hl => ?_)
  refine lv_iload_n hx hb dX11_whom_8 rfl (lv_at hl 4 rfl) ?_
  refine lv_iconst (v := (-1)) hx hb dX11_whom_9 (by decide) ?_
  refine lv_icmp_eq (tgt := 24) hx hb dX11_whom_10 (by decide) (fun c_10 => absurd c_10 (nI_m1 (by omega))) (fun c_10 => ?_)
  refine lv_sipush (v := 262) hx hb dX11_whom_13 (by decide) ?_
  refine lv_bipush (v := 51) hx hb dX11_whom_16 (by decide) ?_
  refine lv_iload_n hx hb dX11_whom_18 rfl (lv_at hl 4 rfl) ?_
  refine lv_imul hx hb dX11_whom_19 ?_
  refine my_bei (v := nI (51 * xt)) (pk_mul 51 xt) ?_
  refine lv_iadd hx hb dX11_whom_20 ?_
  refine my_bei (v := nI (51 * xt + 262)) ((nI_add 262 (51 * xt)).trans (congrArg nI (show 262 + (51 * xt) = 51 * xt + 262 by omega))) ?_
  refine lv_goto (tgt := 45) hx hb dX11_whom_21 (by decide) ?_
  refine lv_istore (lv' := [(5, .int (nI (51 * xt + 262))), (4, .int (fo o91)), (0, .ref (g 315)), (1, .int 0), (2, .int q), (3, .int (nI xt))]) hx hb dX11_whom_45 hl (by decide) rfl (fun ls hl => ?_)
  refine lv_iload hx hb dX11_whom_47 (lv_at hl 0 rfl) ?_
  refine lv_iconst (v := (-1)) hx hb dX11_whom_49 (by decide) ?_
  refine lv_icmp_ne (tgt := 66) hx hb dX11_whom_50 (by decide) (fun c_50 => ?_) (fun c_50 => absurd c_50 (nI_m1 (by omega)))
  refine lv_aload_n hx hb dX11_whom_66 rfl (lv_at hl 2 rfl) ?_
  refine lv_iload hx hb dX11_whom_67 (lv_at hl 0 rfl) ?_
  refine b_calli (va_runV (As := [.int (nI (51 * xt + 262))]) (rest := []) ⟨hx, hb, hml, hown, hts⟩ (r_readsE l G g hg f ab2 be2 sn wn sa ly rdy (nI fd) ss sp wi wa (51 * xt + 262) l9 hmo hss_ hsp_ hwi_ hwa_ (by first | assumption | omega | decide) (hl8) (by first | assumption | omega | decide)) (my_cwV hts ok_X11_reads w_345 rfl rfl ⟨Nat.le_of_ble_eq_true rfl, Nat.le_of_ble_eq_true rfl⟩) ⟨bP.blind, va_recv hG.1 hP (ci := 10) (q0 := 315) rfl (wl_at (by decide) hmo), fun U hU hW => ⟨rfl, by rw [hU]; exact hP, kG.warm hW hG⟩⟩ rfl rfl hl.1 rfl (lv_room (Nat.le_of_ble_eq_true rfl)) dX11_whom_69 ⟨Nat.le_of_ble_eq_true rfl, Nat.le_of_ble_eq_true rfl⟩) hS (fun v2 f_2 H locs hq9 hP hS => ?_)
  obtain ⟨sn93, wn94, sp95, wi96, wa97, rfl, hq_2_0, hq_2_1, hq_2_2, hq_2_3, hx_2_0, hx_2_1, o_2⟩ := hq9
  have hmo : f_2 315 = eO 10 [.ref (g 316), .ref (g 317), .ref (g 318), .long ab2, .long be2, .int (nI sn93), .ref (g 319), .ref (g 320), .int (nI wn94), .ref (g 321), .ref (g 322), .int sa, .int ly, .int rdy, .int (nI fd), .ref (g 323), .ref (g 324), .ref (g 325), .ref (g 326), .ref (g 327), .ref (g 328), .ref (g 329), .ref (g 330), .ref (g 331), .ref (g 332)] := hq_2_0
  have hsp_ : f_2 319 = eI G 70 sp95 := hq_2_1
  have hwi_ : f_2 320 = eI G 70 wi96 := hq_2_2
  have hwa_ : f_2 321 = eI G 70 wa97 := hq_2_3
  refine lv_pop hx hb dX11_whom_72 rfl ?_
  obtain ⟨hdp1, hdp2⟩ := hx_2_0 hl7
  have hst9 := hx_2_1 hl7
  have hgd := rdO_good hl9 hl7
  have hlen9 : (rdO l9 (fun k => ss (51 * xt + 262 + k + 1))).length = sn93 := by
    have h9 := congrArg List.length hst9
    rw [stp_len] at h9
    exact h9.symm
  refine lv_iconst (v := 0) hx hb dX11_whom_73 (by decide) ?_
  refine lv_istore (lv' := [(6, .int 0), (5, .int (nI (51 * xt + 262))), (4, .int (fo o91)), (0, .ref (g 315)), (1, .int 0), (2, .int q), (3, .int (nI xt))]) hx hb dX11_whom_74 hl (by decide) rfl (fun ls hl => ?_)
  refine lv_iconst (v := 0) hx hb dX11_whom_76 (by decide) ?_
  refine lv_istore (lv' := [(7, .int 0), (6, .int 0), (5, .int (nI (51 * xt + 262))), (4, .int (fo o91)), (0, .ref (g 315)), (1, .int 0), (2, .int q), (3, .int (nI xt))]) hx hb dX11_whom_77 hl (by decide) rfl (fun ls hl => ?_)
  replace hss_ := ((o_2 316 (by first | decide | omega))).trans hss_
  replace hva_ := ((o_2 322 (by first | decide | omega))).trans hva_
  replace hju_ := ((o_2 324 (by first | decide | omega))).trans hju_
  have key8 : ∀ (n9_8 : Nat) (i : Nat) (u : Int32) (sa1 : Int32) (ly1 : Int32) (va1 : Nat → Int64) (f_3 : Nat → va_E) (H : Heap) (locs : List Loc) (ls : Array Slot), (i ≤ np) → (u = sO (fun p => decide (¬ (ev ((nvF (fun i c => ss (4 * i + c + 10)) (fun t c => ss (10 * t + c + 1546)) ju q fd) p) (rdO l9 (fun k => ss (51 * xt + 262 + k + 1)))).headD 0 = 0)) i) → np - i < n9_8 → f_3 315 = eO 10 [.ref (g 316), .ref (g 317), .ref (g 318), .long ab2, .long be2, .int (nI sn93), .ref (g 319), .ref (g 320), .int (nI wn94), .ref (g 321), .ref (g 322), .int sa1, .int ly1, .int rdy, .int (nI fd), .ref (g 323), .ref (g 324), .ref (g 325), .ref (g 326), .ref (g 327), .ref (g 328), .ref (g 329), .ref (g 330), .ref (g 331), .ref (g 332)] → f_3 316 = eI G 2246 ss → f_3 319 = eI G 70 sp95 → f_3 320 = eI G 70 wi96 → f_3 321 = eI G 70 wa97 → f_3 322 = eJ G 70 va1 → f_3 324 = eI G 11 ju → (∀ j, (j ≠ 315 ∧ j ≠ 322) → f_3 j = f_2 j) → va_P G.1 vwCl (wl g f_3) H → va_S (gA g) s.heap H locs → lv_has ls 8 [(0, .ref (g 315)), (2, .int q), (6, .int u), (7, .int (nI i))] → W p l e (headSpec (wsT yX11_whom cX11_whom 8 (some .int)) ({ frames := 4, cells := 0, slots := 0, locals := 93 })).room s m ([.ref (g 315), .int 0, .int q, .int (nI xt)] : List Value).toArray below meth c H locs 0 0 Q9 (F0 m 79 ls []) := by
    intro n9_8
    induction n9_8 with
    | zero => intro i u sa1 ly1 va1 f_3 H locs ls hi hu hn9_8; exact absurd hn9_8 (Nat.not_lt_zero _)
    | succ n9_8 ih_8 =>
      intro i u sa1 ly1 va1 f_3 H locs ls hi hu hn9_8 hmo hss_ hsp_ hwi_ hwa_ hva_ hju_ o_3 hP hS hl
      refine lv_iload hx hb dX11_whom_79 (lv_at hl 3 rfl) ?_
      refine lv_aload_n hx hb dX11_whom_81 rfl (lv_at hl 0 rfl) ?_
      refine va_get (D := G.1) (ci := 10) (v := .ref (g 316)) (C := RX11) (T := TX11) (N := 25) hx hb hts inlX11 hown hG.1 hP 315 (wl_at (by decide) hmo) rfl 0 (by decide) (hts (.fieldLink RX11 7 "SwornListsModel" "st" "[I") w_112) (fun _ h9 => h9) rfl dX11_whom_82 ?_
      refine lv_iconst (v := 0) hx hb dX11_whom_85 (by decide) ?_
      refine va_iald hx hb hG.1 hP 316 0 (wl_at (by decide) hss_) rfl (by unfold vp_in; decide) dX11_whom_86 ?_
      refine my_bei (v := ss 0) (rfl) ?_
      refine my_bei (v := nI np) (hst.h0) ?_
      refine lv_icmp_ge (tgt := 121) hx hb dX11_whom_87 (by decide) (fun c_87 => ?_) (fun c_87 => ?_)
      · have k_87 : np ≤ i := (nI_leI (a := np) (b := i) (by omega) (by omega)).mp c_87
        refine lv_iload hx hb dX11_whom_121 (lv_at hl 2 rfl) ?_
        refine W_q9 hQ9 ?_
        exact W.iret (v := u) hx hb hr (fun _ hT9 _ => ⟨⟨_, f_3, rfl, (⟨(nI sn93), (nI wn94), sa1, ly1, sp95, wi96, wa97, va1, by show _ = sO (fun p => decide (¬ (ev ((nvF (fun i c => ss (4 * i + c + 10)) (fun t c => ss (10 * t + c + 1546)) ju q fd) p) (rdO l9 (fun k => ss (51 * xt + 262 + k + 1)))).headD 0 = 0)) np; rw [hu, show i = np by omega], hmo, hsp_, hwi_, hwa_, hva_, fun j hj => ((o_3 j (by omega))).trans (o_2 j (by omega))⟩), by rw [hT9]; exact hP⟩, hS.F hT9⟩) hS.2.2 dX11_whom_123
      · have k_87 : ¬ np ≤ i := fun z9 => c_87 ((nI_leI (a := np) (b := i) (by omega) (by omega)).mpr z9)
        refine lv_iload hx hb dX11_whom_90 (lv_at hl 2 rfl) ?_
        refine lv_aload_n hx hb dX11_whom_92 rfl (lv_at hl 0 rfl) ?_
        refine lv_iload hx hb dX11_whom_93 (lv_at hl 3 rfl) ?_
        refine lv_iload_n hx hb dX11_whom_95 rfl (lv_at hl 1 rfl) ?_
        refine b_calll (va_runV (As := [.int (nI i), .int q]) (rest := [.int u]) ⟨hx, hb, hml, hown, hts⟩ (r_tellsOfE l G g hg f_3 ab2 be2 sn93 (nI wn94) sa1 ly1 rdy fd ss ju sp95 wi96 va1 i (rdO l9 (fun k => ss (51 * xt + 262 + k + 1))) q hmo hss_ hsp_ hwi_ hva_ hju_ (by first | assumption | omega | decide) (by first | assumption | omega | decide) (by omega) (hst9) (hlen9) (hgd.1) (hgd.2) (hdy) (hmo2)) (my_cwV hts ok_X11_tellsOf w_544 rfl rfl ⟨Nat.le_of_ble_eq_true rfl, Nat.le_of_ble_eq_true rfl⟩) ⟨bP.blind, va_recv hG.1 hP (ci := 10) (q0 := 315) rfl (wl_at (by decide) hmo), fun U hU hW => ⟨rfl, by rw [hU]; exact hP, kG.warm hW hG⟩⟩ rfl rfl hl.1 rfl (lv_room (Nat.le_of_ble_eq_true rfl)) dX11_whom_96 ⟨Nat.le_of_ble_eq_true rfl, Nat.le_of_ble_eq_true rfl⟩) hS (fun v9 f_4 H locs hq9 hP hS => ?_)
        obtain ⟨sa910, ly911, va912, rfl, hq_4_0, hq_4_1, o_4⟩ := hq9
        have hmo : f_4 315 = eO 10 [.ref (g 316), .ref (g 317), .ref (g 318), .long ab2, .long be2, .int (nI sn93), .ref (g 319), .ref (g 320), .int (nI wn94), .ref (g 321), .ref (g 322), .int sa910, .int ly911, .int rdy, .int (nI fd), .ref (g 323), .ref (g 324), .ref (g 325), .ref (g 326), .ref (g 327), .ref (g 328), .ref (g 329), .ref (g 330), .ref (g 331), .ref (g 332)] := hq_4_0
        have hva_ : f_4 322 = eJ G 70 va912 := hq_4_1
        refine lv_lconst (v := 0) hx hb dX11_whom_99 (by decide) ?_
        refine W.lcmp hx hb dX11_whom_100 ?_
        refine lv_if_eq (tgt := 111) hx hb dX11_whom_101 (by decide) (fun c_101 => ?_) (fun c_101 => ?_)
        · refine lv_iconst (v := 0) hx hb dX11_whom_111 (by decide) ?_
          refine lv_ior hx hb dX11_whom_112 ?_
          refine my_bei (v := u) (or0 u) ?_
          refine lv_istore (lv' := [(6, .int u), (0, .ref (g 315)), (2, .int q), (7, .int (nI i))]) hx hb dX11_whom_113 hl (by decide) rfl (fun ls hl => ?_)
          refine lv_iinc (v := nI (i + 1)) (lv' := [(7, .int (nI (i + 1))), (6, .int u), (0, .ref (g 315)), (2, .int q)]) hx hb dX11_whom_115 hl (k := 3) rfl (nI_add i 1) (by decide) rfl (fun ls hl => ?_)
          refine lv_goto (tgt := 79) hx hb dX11_whom_118 (by decide) ?_
          replace hss_ := ((o_4 316 (by first | decide | omega))).trans hss_
          replace hsp_ := ((o_4 319 (by first | decide | omega))).trans hsp_
          replace hwi_ := ((o_4 320 (by first | decide | omega))).trans hwi_
          replace hwa_ := ((o_4 321 (by first | decide | omega))).trans hwa_
          replace hju_ := ((o_4 324 (by first | decide | omega))).trans hju_
          exact ih_8 (i + 1) u sa910 ly911 va912 f_4 _ _ _ (by omega) (by rw [hu, sO_n (q := (fun p => decide (¬ (ev ((nvF (fun i c => ss (4 * i + c + 10)) (fun t c => ss (10 * t + c + 1546)) ju q fd) p) (rdO l9 (fun k => ss (51 * xt + 262 + k + 1)))).headD 0 = 0))) (fun z => of_decide_eq_true z ((lg_cmp_eq _ _).mp c_101))]) (by omega) (hmo) (hss_) (hsp_) (hwi_) (hwa_) (hva_) (hju_) (fun j hj => ((o_4 j (by omega))).trans (o_3 j (by omega))) hP hS (lv_sub hl [2, 3, 1, 0] rfl)
        · refine lv_iconst (v := 1) hx hb dX11_whom_104 (by decide) ?_
          refine lv_iload hx hb dX11_whom_105 (lv_at hl 3 rfl) ?_
          refine lv_ishl hx hb dX11_whom_107 ?_
          refine lv_goto (tgt := 112) hx hb dX11_whom_108 (by decide) ?_
          refine lv_ior hx hb dX11_whom_112 ?_
          refine lv_istore (lv' := [(6, .int (u ||| (1 <<< ((nI i) &&& 31)))), (0, .ref (g 315)), (2, .int q), (7, .int (nI i))]) hx hb dX11_whom_113 hl (by decide) rfl (fun ls hl => ?_)
          refine lv_iinc (v := nI (i + 1)) (lv' := [(7, .int (nI (i + 1))), (6, .int (u ||| (1 <<< ((nI i) &&& 31)))), (0, .ref (g 315)), (2, .int q)]) hx hb dX11_whom_115 hl (k := 3) rfl (nI_add i 1) (by decide) rfl (fun ls hl => ?_)
          refine lv_goto (tgt := 79) hx hb dX11_whom_118 (by decide) ?_
          replace hss_ := ((o_4 316 (by first | decide | omega))).trans hss_
          replace hsp_ := ((o_4 319 (by first | decide | omega))).trans hsp_
          replace hwi_ := ((o_4 320 (by first | decide | omega))).trans hwi_
          replace hwa_ := ((o_4 321 (by first | decide | omega))).trans hwa_
          replace hju_ := ((o_4 324 (by first | decide | omega))).trans hju_
          exact ih_8 (i + 1) (u ||| (1 <<< ((nI i) &&& 31))) sa910 ly911 va912 f_4 _ _ _ (by omega) (by rw [hu, sO_y (q := (fun p => decide (¬ (ev ((nvF (fun i c => ss (4 * i + c + 10)) (fun t c => ss (10 * t + c + 1546)) ju q fd) p) (rdO l9 (fun k => ss (51 * xt + 262 + k + 1)))).headD 0 = 0))) (decide_eq_true (fun z => c_101 ((lg_cmp_eq _ _).mpr z)))]; rfl) (by omega) (hmo) (hss_) (hsp_) (hwi_) (hwa_) (hva_) (hju_) (fun j hj => ((o_4 j (by omega))).trans (o_3 j (by omega))) hP hS (lv_sub hl [2, 3, 1, 0] rfl)
  exact key8 (np + 1) 0 0 sa ly va f_2 _ _ _ (Nat.zero_le _) (rfl) (by omega) (hmo) (hss_) (hsp_) (hwi_) (hwa_) (hva_) (hju_) (fun j _ => rfl) hP hS (lv_sub hl [4, 6, 1, 0] rfl)
set_option maxHeartbeats 4000000 in
set_option maxRecDepth 100000 in
theorem r_whomX1 (l : Launch) (G : gW) (g : Nat → Nat) (hg : gOK g) (f : Nat → va_E) (ab2 : Int64) (be2 : Int64) (sn : Int32) (wn : Int32) (sa : Int32) (ly : Int32) (rdy : Int32) (fd : Nat) (ss : Nat → Int32) (np : Nat) (nf : Nat) (nr : Nat) (na : Nat) (nt : Nat) (sp : Nat → Int32) (wi : Nat → Int32) (wa : Nat → Int32) (va : Nat → Int64) (ju : Nat → Int32) (q : Int32) (xt : Nat) (l9 : Nat) (hmo : f 315 = eO 10 [.ref (g 316), .ref (g 317), .ref (g 318), .long ab2, .long be2, .int sn, .ref (g 319), .ref (g 320), .int wn, .ref (g 321), .ref (g 322), .int sa, .int ly, .int rdy, .int (nI fd), .ref (g 323), .ref (g 324), .ref (g 325), .ref (g 326), .ref (g 327), .ref (g 328), .ref (g 329), .ref (g 330), .ref (g 331), .ref (g 332)]) (hss_ : f 316 = eI G 2246 ss) (hsp_ : f 319 = eI G 70 sp) (hwi_ : f 320 = eI G 70 wi) (hwa_ : f 321 = eI G 70 wa) (hva_ : f 322 = eJ G 70 va) (hju_ : f 324 = eI G 11 ju) (hst : stOK ss np nf nr na nt) (hfo : fd ≤ 10) (hxt : xt < 4) (hl8 : ss (51 * xt + 262) = nI l9) (hl9 : l9 ≤ 50) (hl7 : rdA l9 (fun k => ss (51 * xt + 262 + k + 1)) = -1) (hdy : ∀ o, o < fd → 0 ≤ (fun t c => ss (10 * t + c + 1546)) o 0) (hmo2 : ∀ o o', o ≤ o' → o' < fd → (fun t c => ss (10 * t + c + 1546)) o 0 ≤ (fun t c => ss (10 * t + c + 1546)) o' 0) : Met l yX11_whom (wsT yX11_whom cX11_whom 8 (some .int)) ({ frames := 4, cells := 0, slots := 0, locals := 93 }) (bP G g f [.ref (g 315), .int 1, .int q, .int (nI xt)]) (bQi G g (fun (z9 : Int32) (f' : Nat → va_E) => ∃ sn9 : Int32, ∃ wn9 : Int32, ∃ sa9 : Int32, ∃ ly9 : Int32, ∃ sp9 : Nat → Int32, ∃ wi9 : Nat → Int32, ∃ wa9 : Nat → Int32, ∃ va9 : Nat → Int64, z9 = whV np (nvF (fun i c => ss (4 * i + c + 10)) (fun t c => ss (10 * t + c + 1546)) ju q fd) 0 (some (rdO l9 (fun k => ss (51 * xt + 262 + k + 1)))) ∧ f' 315 = eO 10 [.ref (g 316), .ref (g 317), .ref (g 318), .long ab2, .long be2, .int sn9, .ref (g 319), .ref (g 320), .int wn9, .ref (g 321), .ref (g 322), .int sa9, .int ly9, .int rdy, .int (nI fd), .ref (g 323), .ref (g 324), .ref (g 325), .ref (g 326), .ref (g 327), .ref (g 328), .ref (g 329), .ref (g 330), .ref (g 331), .ref (g 332)] ∧ f' 319 = eI G 70 sp9 ∧ f' 320 = eI G 70 wi9 ∧ f' 321 = eI G 70 wa9 ∧ f' 322 = eJ G 70 va9 ∧ ∀ j, (j ≠ 315 ∧ j ≠ 319 ∧ j ≠ 320 ∧ j ≠ 321 ∧ j ≠ 322) → f' j = f j)) 0 0 (gA g) := by
  refine Met.ofW (cc := cX11_whom) (maxL := 8) (ret := (some .int)) (by decide) rfl ?_
  intro p e s m args below meth c s₁ B hml hv
  obtain ⟨rfl, hP, hG⟩ := hv
  have hx := B.exec
  have hb := B.bytes
  have hr := B.returns
  have hts := my_hts (atoms_spec (ws := wsT yX11_whom cX11_whom 8 (some .int)) B.pre)
  have hown : s.vm.findClass RX11 = some m.cls := findClass_of_methodNamed B.named
  have hlocks := B.notSynchronized
  have hS : va_S (gA g) s.heap s.heap [] := va_S.rf
  have hl := lv_entry ([.ref (g 315), .int 1, .int q, .int (nI xt)]) (n := 8) (Nat.le_of_ble_eq_true rfl)
  rw [lg_entry_eq]
  generalize (lg_sl ([.ref (g 315), .int 1, .int q, .int (nI xt)]) ++ List.replicate (8 - (lg_sl ([.ref (g 315), .int 1, .int q, .int (nI xt)])).length) Slot.unset).toArray = ls at hl ⊢
  have hl : lv_has ls 8 [(0, .ref (g 315)), (1, .int 1), (2, .int q), (3, .int (nI xt))] := hl
  refine W_q8 (fun Q9 hQ9 => ?_)
  have hc0 := hst.c0
  have hc1 := hst.c1
  have hc2 := hst.c2
  have hc3 := hst.c3
  have hc4 := hst.c4
  refine lv_aload_n hx hb dX11_whom_0 rfl (lv_at hl 0 rfl) ?_
  refine lv_iload_n hx hb dX11_whom_1 rfl (lv_at hl 1 rfl) ?_
  refine lv_iload_n hx hb dX11_whom_2 rfl (lv_at hl 2 rfl) ?_
  refine rd_calli (va_runV (As := [.int 1, .int q]) (rest := []) ⟨hx, hb, hml, hown, hts⟩ (r_inForceE l G g hg f ab2 be2 sn wn sa ly rdy (nI fd) ss np nf nr na nt 1 q hmo hss_ (by first | assumption | omega | decide)) (my_cwV hts ok_X11_inForce w_540 rfl rfl ⟨Nat.le_of_ble_eq_true rfl, Nat.le_of_ble_eq_true rfl⟩) ⟨bP.blind, va_recv hG.1 hP (ci := 10) (q0 := 315) rfl (wl_at (by decide) hmo), fun U hU hW => ⟨rfl, by rw [hU]; exact hP, kG.warm hW hG⟩⟩ rfl rfl hl.1 rfl (lv_room (Nat.le_of_ble_eq_true rfl)) dX11_whom_3 ⟨Nat.le_of_ble_eq_true rfl, Nat.le_of_ble_eq_true rfl⟩) (fun r hr9 => ?_)
  obtain ⟨o91, rfl, hx_1_0, hx_1_1⟩ := hr9
  refine lv_istore (lv' := [(4, .int (fo o91)), (0, .ref (g 315)), (1, .int 1), (2, .int q), (3, .int (nI xt))]) hx hb dX11_whom_6 hl (by decide) rfl (fun ls hl => ?_)
  refine lv_iload_n hx hb dX11_whom_8 rfl (lv_at hl 4 rfl) ?_
  refine lv_iconst (v := (-1)) hx hb dX11_whom_9 (by decide) ?_
  refine lv_icmp_eq (tgt := 24) hx hb dX11_whom_10 (by decide) (fun c_10 => absurd c_10 (nI_m1 (by omega))) (fun c_10 => ?_)
  refine lv_sipush (v := 262) hx hb dX11_whom_13 (by decide) ?_
  refine lv_bipush (v := 51) hx hb dX11_whom_16 (by decide) ?_
  refine lv_iload_n hx hb dX11_whom_18 rfl (lv_at hl 4 rfl) ?_
  refine lv_imul hx hb dX11_whom_19 ?_
  refine my_bei (v := nI (51 * xt)) (pk_mul 51 xt) ?_
  refine lv_iadd hx hb dX11_whom_20 ?_
  refine my_bei (v := nI (51 * xt + 262)) ((nI_add 262 (51 * xt)).trans (congrArg nI (show 262 + (51 * xt) = 51 * xt + 262 by omega))) ?_
  refine lv_goto (tgt := 45) hx hb dX11_whom_21 (by decide) ?_
  refine lv_istore (lv' := [(5, .int (nI (51 * xt + 262))), (4, .int (fo o91)), (0, .ref (g 315)), (1, .int 1), (2, .int q), (3, .int (nI xt))]) hx hb dX11_whom_45 hl (by decide) rfl (fun ls hl => ?_)
  refine lv_iload hx hb dX11_whom_47 (lv_at hl 0 rfl) ?_
  refine lv_iconst (v := (-1)) hx hb dX11_whom_49 (by decide) ?_
  refine lv_icmp_ne (tgt := 66) hx hb dX11_whom_50 (by decide) (fun c_50 => ?_) (fun c_50 => absurd c_50 (nI_m1 (by omega)))
  refine lv_aload_n hx hb dX11_whom_66 rfl (lv_at hl 2 rfl) ?_
  refine lv_iload hx hb dX11_whom_67 (lv_at hl 0 rfl) ?_
  refine b_calli (va_runV (As := [.int (nI (51 * xt + 262))]) (rest := []) ⟨hx, hb, hml, hown, hts⟩ (r_readsE l G g hg f ab2 be2 sn wn sa ly rdy (nI fd) ss sp wi wa (51 * xt + 262) l9 hmo hss_ hsp_ hwi_ hwa_ (by first | assumption | omega | decide) (hl8) (by first | assumption | omega | decide)) (my_cwV hts ok_X11_reads w_345 rfl rfl ⟨Nat.le_of_ble_eq_true rfl, Nat.le_of_ble_eq_true rfl⟩) ⟨bP.blind, va_recv hG.1 hP (ci := 10) (q0 := 315) rfl (wl_at (by decide) hmo), fun U hU hW => ⟨rfl, by rw [hU]; exact hP, kG.warm hW hG⟩⟩ rfl rfl hl.1 rfl (lv_room (Nat.le_of_ble_eq_true rfl)) dX11_whom_69 ⟨Nat.le_of_ble_eq_true rfl, Nat.le_of_ble_eq_true rfl⟩) hS (fun v2 f_2 H locs hq9 hP hS => ?_)
  obtain ⟨sn93, wn94, sp95, wi96, wa97, rfl, hq_2_0, hq_2_1, hq_2_2, hq_2_3, hx_2_0, hx_2_1, o_2⟩ := hq9
  have hmo : f_2 315 = eO 10 [.ref (g 316), .ref (g 317), .ref (g 318), .long ab2, .long be2, .int (nI sn93), .ref (g 319), .ref (g 320), .int (nI wn94), .ref (g 321), .ref (g 322), .int sa, .int ly, .int rdy, .int (nI fd), .ref (g 323), .ref (g 324), .ref (g 325), .ref (g 326), .ref (g 327), .ref (g 328), .ref (g 329), .ref (g 330), .ref (g 331), .ref (g 332)] := hq_2_0
  have hsp_ : f_2 319 = eI G 70 sp95 := hq_2_1
  have hwi_ : f_2 320 = eI G 70 wi96 := hq_2_2
  have hwa_ : f_2 321 = eI G 70 wa97 := hq_2_3
  refine lv_pop hx hb dX11_whom_72 rfl ?_
  obtain ⟨hdp1, hdp2⟩ := hx_2_0 hl7
  have hst9 := hx_2_1 hl7
  have hgd := rdO_good hl9 hl7
  have hlen9 : (rdO l9 (fun k => ss (51 * xt + 262 + k + 1))).length = sn93 := by
    have h9 := congrArg List.length hst9
    rw [stp_len] at h9
    exact h9.symm
  refine lv_iconst (v := 0) hx hb dX11_whom_73 (by decide) ?_
  refine lv_istore (lv' := [(6, .int 0), (5, .int (nI (51 * xt + 262))), (4, .int (fo o91)), (0, .ref (g 315)), (1, .int 1), (2, .int q), (3, .int (nI xt))]) hx hb dX11_whom_74 hl (by decide) rfl (fun ls hl => ?_)
  refine lv_iconst (v := 0) hx hb dX11_whom_76 (by decide) ?_
  refine lv_istore (lv' := [(7, .int 0), (6, .int 0), (5, .int (nI (51 * xt + 262))), (4, .int (fo o91)), (0, .ref (g 315)), (1, .int 1), (2, .int q), (3, .int (nI xt))]) hx hb dX11_whom_77 hl (by decide) rfl (fun ls hl => ?_)
  replace hss_ := ((o_2 316 (by first | decide | omega))).trans hss_
  replace hva_ := ((o_2 322 (by first | decide | omega))).trans hva_
  replace hju_ := ((o_2 324 (by first | decide | omega))).trans hju_
  have key8 : ∀ (n9_8 : Nat) (i : Nat) (u : Int32) (sa1 : Int32) (ly1 : Int32) (va1 : Nat → Int64) (f_3 : Nat → va_E) (H : Heap) (locs : List Loc) (ls : Array Slot), (i ≤ np) → (u = sO (fun p => decide (¬ (ev ((nvF (fun i c => ss (4 * i + c + 10)) (fun t c => ss (10 * t + c + 1546)) ju q fd) p) (rdO l9 (fun k => ss (51 * xt + 262 + k + 1)))).headD 0 = 0)) i) → np - i < n9_8 → f_3 315 = eO 10 [.ref (g 316), .ref (g 317), .ref (g 318), .long ab2, .long be2, .int (nI sn93), .ref (g 319), .ref (g 320), .int (nI wn94), .ref (g 321), .ref (g 322), .int sa1, .int ly1, .int rdy, .int (nI fd), .ref (g 323), .ref (g 324), .ref (g 325), .ref (g 326), .ref (g 327), .ref (g 328), .ref (g 329), .ref (g 330), .ref (g 331), .ref (g 332)] → f_3 316 = eI G 2246 ss → f_3 319 = eI G 70 sp95 → f_3 320 = eI G 70 wi96 → f_3 321 = eI G 70 wa97 → f_3 322 = eJ G 70 va1 → f_3 324 = eI G 11 ju → (∀ j, (j ≠ 315 ∧ j ≠ 322) → f_3 j = f_2 j) → va_P G.1 vwCl (wl g f_3) H → va_S (gA g) s.heap H locs → lv_has ls 8 [(0, .ref (g 315)), (2, .int q), (6, .int u), (7, .int (nI i))] → W p l e (headSpec (wsT yX11_whom cX11_whom 8 (some .int)) ({ frames := 4, cells := 0, slots := 0, locals := 93 })).room s m ([.ref (g 315), .int 1, .int q, .int (nI xt)] : List Value).toArray below meth c H locs 0 0 Q9 (F0 m 79 ls []) := by
    intro n9_8
    induction n9_8 with
    | zero => intro i u sa1 ly1 va1 f_3 H locs ls hi hu hn9_8; exact absurd hn9_8 (Nat.not_lt_zero _)
    | succ n9_8 ih_8 =>
      intro i u sa1 ly1 va1 f_3 H locs ls hi hu hn9_8 hmo hss_ hsp_ hwi_ hwa_ hva_ hju_ o_3 hP hS hl
      refine lv_iload hx hb dX11_whom_79 (lv_at hl 3 rfl) ?_
      refine lv_aload_n hx hb dX11_whom_81 rfl (lv_at hl 0 rfl) ?_
      refine va_get (D := G.1) (ci := 10) (v := .ref (g 316)) (C := RX11) (T := TX11) (N := 25) hx hb hts inlX11 hown hG.1 hP 315 (wl_at (by decide) hmo) rfl 0 (by decide) (hts (.fieldLink RX11 7 "SwornListsModel" "st" "[I") w_112) (fun _ h9 => h9) rfl dX11_whom_82 ?_
      refine lv_iconst (v := 0) hx hb dX11_whom_85 (by decide) ?_
      refine va_iald hx hb hG.1 hP 316 0 (wl_at (by decide) hss_) rfl (by unfold vp_in; decide) dX11_whom_86 ?_
      refine my_bei (v := ss 0) (rfl) ?_
      refine my_bei (v := nI np) (hst.h0) ?_
      refine lv_icmp_ge (tgt := 121) hx hb dX11_whom_87 (by decide) (fun c_87 => ?_) (fun c_87 => ?_)
      · have k_87 : np ≤ i := (nI_leI (a := np) (b := i) (by omega) (by omega)).mp c_87
        refine lv_iload hx hb dX11_whom_121 (lv_at hl 2 rfl) ?_
        refine W_q9 hQ9 ?_
        exact W.iret (v := u) hx hb hr (fun _ hT9 _ => ⟨⟨_, f_3, rfl, (⟨(nI sn93), (nI wn94), sa1, ly1, sp95, wi96, wa97, va1, by show _ = sO (fun p => decide (¬ (ev ((nvF (fun i c => ss (4 * i + c + 10)) (fun t c => ss (10 * t + c + 1546)) ju q fd) p) (rdO l9 (fun k => ss (51 * xt + 262 + k + 1)))).headD 0 = 0)) np; rw [hu, show i = np by omega], hmo, hsp_, hwi_, hwa_, hva_, fun j hj => ((o_3 j (by omega))).trans (o_2 j (by omega))⟩), by rw [hT9]; exact hP⟩, hS.F hT9⟩) hS.2.2 dX11_whom_123
      · have k_87 : ¬ np ≤ i := fun z9 => c_87 ((nI_leI (a := np) (b := i) (by omega) (by omega)).mpr z9)
        refine lv_iload hx hb dX11_whom_90 (lv_at hl 2 rfl) ?_
        refine lv_aload_n hx hb dX11_whom_92 rfl (lv_at hl 0 rfl) ?_
        refine lv_iload hx hb dX11_whom_93 (lv_at hl 3 rfl) ?_
        refine lv_iload_n hx hb dX11_whom_95 rfl (lv_at hl 1 rfl) ?_
        refine b_calll (va_runV (As := [.int (nI i), .int q]) (rest := [.int u]) ⟨hx, hb, hml, hown, hts⟩ (r_tellsOfE l G g hg f_3 ab2 be2 sn93 (nI wn94) sa1 ly1 rdy fd ss ju sp95 wi96 va1 i (rdO l9 (fun k => ss (51 * xt + 262 + k + 1))) q hmo hss_ hsp_ hwi_ hva_ hju_ (by first | assumption | omega | decide) (by first | assumption | omega | decide) (by omega) (hst9) (hlen9) (hgd.1) (hgd.2) (hdy) (hmo2)) (my_cwV hts ok_X11_tellsOf w_544 rfl rfl ⟨Nat.le_of_ble_eq_true rfl, Nat.le_of_ble_eq_true rfl⟩) ⟨bP.blind, va_recv hG.1 hP (ci := 10) (q0 := 315) rfl (wl_at (by decide) hmo), fun U hU hW => ⟨rfl, by rw [hU]; exact hP, kG.warm hW hG⟩⟩ rfl rfl hl.1 rfl (lv_room (Nat.le_of_ble_eq_true rfl)) dX11_whom_96 ⟨Nat.le_of_ble_eq_true rfl, Nat.le_of_ble_eq_true rfl⟩) hS (fun v9 f_4 H locs hq9 hP hS => ?_)
        obtain ⟨sa910, ly911, va912, rfl, hq_4_0, hq_4_1, o_4⟩ := hq9
        have hmo : f_4 315 = eO 10 [.ref (g 316), .ref (g 317), .ref (g 318), .long ab2, .long be2, .int (nI sn93), .ref (g 319), .ref (g 320), .int (nI wn94), .ref (g 321), .ref (g 322), .int sa910, .int ly911, .int rdy, .int (nI fd), .ref (g 323), .ref (g 324), .ref (g 325), .ref (g 326), .ref (g 327), .ref (g 328), .ref (g 329), .ref (g 330), .ref (g 331), .ref (g 332)] := hq_4_0
        have hva_ : f_4 322 = eJ G 70 va912 := hq_4_1
        refine lv_lconst (v := 0) hx hb dX11_whom_99 (by decide) ?_
        refine W.lcmp hx hb dX11_whom_100 ?_
        refine lv_if_eq (tgt := 111) hx hb dX11_whom_101 (by decide) (fun c_101 => ?_) (fun c_101 => ?_)
        · refine lv_iconst (v := 0) hx hb dX11_whom_111 (by decide) ?_
          refine lv_ior hx hb dX11_whom_112 ?_
          refine my_bei (v := u) (or0 u) ?_
          refine lv_istore (lv' := [(6, .int u), (0, .ref (g 315)), (2, .int q), (7, .int (nI i))]) hx hb dX11_whom_113 hl (by decide) rfl (fun ls hl => ?_)
          refine lv_iinc (v := nI (i + 1)) (lv' := [(7, .int (nI (i + 1))), (6, .int u), (0, .ref (g 315)), (2, .int q)]) hx hb dX11_whom_115 hl (k := 3) rfl (nI_add i 1) (by decide) rfl (fun ls hl => ?_)
          refine lv_goto (tgt := 79) hx hb dX11_whom_118 (by decide) ?_
          replace hss_ := ((o_4 316 (by first | decide | omega))).trans hss_
          replace hsp_ := ((o_4 319 (by first | decide | omega))).trans hsp_
          replace hwi_ := ((o_4 320 (by first | decide | omega))).trans hwi_
          replace hwa_ := ((o_4 321 (by first | decide | omega))).trans hwa_
          replace hju_ := ((o_4 324 (by first | decide | omega))).trans hju_
          exact ih_8 (i + 1) u sa910 ly911 va912 f_4 _ _ _ (by omega) (by rw [hu, sO_n (q := (fun p => decide (¬ (ev ((nvF (fun i c => ss (4 * i + c + 10)) (fun t c => ss (10 * t + c + 1546)) ju q fd) p) (rdO l9 (fun k => ss (51 * xt + 262 + k + 1)))).headD 0 = 0))) (fun z => of_decide_eq_true z ((lg_cmp_eq _ _).mp c_101))]) (by omega) (hmo) (hss_) (hsp_) (hwi_) (hwa_) (hva_) (hju_) (fun j hj => ((o_4 j (by omega))).trans (o_3 j (by omega))) hP hS (lv_sub hl [2, 3, 1, 0] rfl)
        · refine lv_iconst (v := 1) hx hb dX11_whom_104 (by decide) ?_
          refine lv_iload hx hb dX11_whom_105 (lv_at hl 3 rfl) ?_
          refine lv_ishl hx hb dX11_whom_107 ?_
          refine lv_goto (tgt := 112) hx hb dX11_whom_108 (by decide) ?_
          refine lv_ior hx hb dX11_whom_112 ?_
          refine lv_istore (lv' := [(6, .int (u ||| (1 <<< ((nI i) &&& 31)))), (0, .ref (g 315)), (2, .int q), (7, .int (nI i))]) hx hb dX11_whom_113 hl (by decide) rfl (fun ls hl => ?_)
          refine lv_iinc (v := nI (i + 1)) (lv' := [(7, .int (nI (i + 1))), (6, .int (u ||| (1 <<< ((nI i) &&& 31)))), (0, .ref (g 315)), (2, .int q)]) hx hb dX11_whom_115 hl (k := 3) rfl (nI_add i 1) (by decide) rfl (fun ls hl => ?_)
          refine lv_goto (tgt := 79) hx hb dX11_whom_118 (by decide) ?_
          replace hss_ := ((o_4 316 (by first | decide | omega))).trans hss_
          replace hsp_ := ((o_4 319 (by first | decide | omega))).trans hsp_
          replace hwi_ := ((o_4 320 (by first | decide | omega))).trans hwi_
          replace hwa_ := ((o_4 321 (by first | decide | omega))).trans hwa_
          replace hju_ := ((o_4 324 (by first | decide | omega))).trans hju_
          exact ih_8 (i + 1) (u ||| (1 <<< ((nI i) &&& 31))) sa910 ly911 va912 f_4 _ _ _ (by omega) (by rw [hu, sO_y (q := (fun p => decide (¬ (ev ((nvF (fun i c => ss (4 * i + c + 10)) (fun t c => ss (10 * t + c + 1546)) ju q fd) p) (rdO l9 (fun k => ss (51 * xt + 262 + k + 1)))).headD 0 = 0))) (decide_eq_true (fun z => c_101 ((lg_cmp_eq _ _).mpr z)))]; rfl) (by omega) (hmo) (hss_) (hsp_) (hwi_) (hwa_) (hva_) (hju_) (fun j hj => ((o_4 j (by omega))).trans (o_3 j (by omega))) hP hS (lv_sub hl [2, 3, 1, 0] rfl)
  exact key8 (np + 1) 0 0 sa ly va f_2 _ _ _ (Nat.zero_le _) (rfl) (by omega) (hmo) (hss_) (hsp_) (hwi_) (hwa_) (hva_) (hju_) (fun j _ => rfl) hP hS (lv_sub hl [4, 6, 1, 0] rfl)

