set_option maxHeartbeats 4000000 in
set_option maxRecDepth 100000 in
theorem r_kinOfE (l : Launch) (G : gW) (g : Nat → Nat) (hg : gOK g) (f : Nat → va_E) (ab2 : Int64) (be2 : Int64) (sn : Int32) (wn : Int32) (sa : Int32) (ly : Int32) (rdy : Int32) (fd : Int32) (ss : Nat → Int32) (np : Nat) (nf : Nat) (nr : Nat) (na : Nat) (nt : Nat) (w : Nat) (q : Int32) (hmo : f 315 = eO 10 [.ref (g 316), .ref (g 317), .ref (g 318), .long ab2, .long be2, .int sn, .ref (g 319), .ref (g 320), .int wn, .ref (g 321), .ref (g 322), .int sa, .int ly, .int rdy, .int fd, .ref (g 323), .ref (g 324), .ref (g 325), .ref (g 326), .ref (g 327), .ref (g 328), .ref (g 329), .ref (g 330), .ref (g 331), .ref (g 332)]) (hss_ : f 316 = eI G 2246 ss) (hst : stOK ss np nf nr na nt) (hw : w < 11) : Met l yX11_kinOf (wsT yX11_kinOf cX11_kinOf 7 (some .int)) ({ frames := 1, cells := 0, slots := 0, locals := 22 }) (bP G g f [.ref (g 315), .int (nI w), .int q]) (rQi (fun z9 => z9 = knV (fun i c => ss (3 * i + c + 130)) (ss (10 * w + 1549)) (ss (10 * w + 1550)) q nf)) 0 0 fr0 := by
  refine Met.ofW (cc := cX11_kinOf) (maxL := 7) (ret := (some .int)) (by decide) rfl ?_
  intro p e s m args below meth c s₁ B hml hv
  obtain ⟨rfl, hP, hG⟩ := hv
  have hx := B.exec
  have hb := B.bytes
  have hr := B.returns
  have hts := my_hts (atoms_spec (ws := wsT yX11_kinOf cX11_kinOf 7 (some .int)) B.pre)
  have hown : s.vm.findClass RX11 = some m.cls := findClass_of_methodNamed B.named
  have hlocks := B.notSynchronized
  have hl := lv_entry ([.ref (g 315), .int (nI w), .int q]) (n := 7) (Nat.le_of_ble_eq_true rfl)
  rw [lg_entry_eq]
  generalize (lg_sl ([.ref (g 315), .int (nI w), .int q]) ++ List.replicate (7 - (lg_sl ([.ref (g 315), .int (nI w), .int q])).length) Slot.unset).toArray = ls at hl ⊢
  have hl : lv_has ls 7 [(0, .ref (g 315)), (1, .int (nI w)), (2, .int q)] := hl
  refine W_q8 (fun Q9 hQ9 => ?_)
  have hc0 := hst.c0
  have hc1 := hst.c1
  have hc2 := hst.c2
  have hc3 := hst.c3
  have hc4 := hst.c4
  refine lv_iconst (v := 0) hx hb dX11_kinOf_0 (by decide) ?_
  refine lv_istore_n (lv' := [(3, .int 0), (0, .ref (g 315)), (1, .int (nI w)), (2, .int q)]) hx hb dX11_kinOf_1 rfl hl (by decide) rfl (fun ls hl => ?_)
  refine lv_iconst (v := 0) hx hb dX11_kinOf_2 (by decide) ?_
  refine lv_istore (lv' := [(4, .int 0), (3, .int 0), (0, .ref (g 315)), (1, .int (nI w)), (2, .int q)]) hx hb dX11_kinOf_3 hl (by decide) rfl (fun ls hl => ?_)
  have key1 : ∀ (n9_1 : Nat) (i : Nat) (u : Int32) (ls : Array Slot), (i ≤ nf) → (u = knV (fun i c => ss (3 * i + c + 130)) (ss (10 * w + 1549)) (ss (10 * w + 1550)) q i) → nf - i < n9_1 → lv_has ls 7 [(0, .ref (g 315)), (1, .int (nI w)), (2, .int q), (3, .int u), (4, .int (nI i))] → W p l e (headSpec (wsT yX11_kinOf cX11_kinOf 7 (some .int)) ({ frames := 1, cells := 0, slots := 0, locals := 22 })).room s m ([.ref (g 315), .int (nI w), .int q] : List Value).toArray below meth c s.heap [] 0 0 Q9 (F0 m 5 ls []) := by
    intro n9_1
    induction n9_1 with
    | zero => intro i u ls hi hu hn9_1; exact absurd hn9_1 (Nat.not_lt_zero _)
    | succ n9_1 ih_1 =>
      intro i u ls hi hu hn9_1 hl
      refine lv_iload hx hb dX11_kinOf_5 (lv_at hl 4 rfl) ?_
      refine lv_aload_n hx hb dX11_kinOf_7 rfl (lv_at hl 0 rfl) ?_
      refine va_get (D := G.1) (ci := 10) (v := .ref (g 316)) (C := RX11) (T := TX11) (N := 25) hx hb hts inlX11 hown hG.1 hP 315 (wl_at (by decide) hmo) rfl 0 (by decide) (hts (.fieldLink RX11 7 "SwornListsModel" "st" "[I") w_112) (fun _ h9 => h9) rfl dX11_kinOf_8 ?_
      refine lv_iconst (v := 1) hx hb dX11_kinOf_11 (by decide) ?_
      refine va_iald hx hb hG.1 hP 316 0 (wl_at (by decide) hss_) rfl (by unfold vp_in; decide) dX11_kinOf_12 ?_
      refine my_bei (v := ss 1) (rfl) ?_
      refine my_bei (v := nI nf) (hst.h1) ?_
      refine lv_icmp_ge (tgt := 109) hx hb dX11_kinOf_13 (by decide) (fun c_13 => ?_) (fun c_13 => ?_)
      · have k_13 : nf ≤ i := (nI_leI (a := nf) (b := i) (by omega) (by omega)).mp c_13
        refine lv_iload_n hx hb dX11_kinOf_109 rfl (lv_at hl 3 rfl) ?_
        refine W_q9 hQ9 ?_
        exact W.iret (v := u) hx hb hr (fun _ hT9 _ => ⟨_, rfl, (by rw [hu, show i = nf by omega]), hT9⟩) (fun _ h => absurd h List.not_mem_nil) dX11_kinOf_110
      · have k_13 : ¬ nf ≤ i := fun z9 => c_13 ((nI_leI (a := nf) (b := i) (by omega) (by omega)).mpr z9)
        have hi9 : i < nf := by omega
        refine lv_sipush (v := 130) hx hb dX11_kinOf_16 (by decide) ?_
        refine lv_iconst (v := 3) hx hb dX11_kinOf_19 (by decide) ?_
        refine lv_iload hx hb dX11_kinOf_20 (lv_at hl 4 rfl) ?_
        refine lv_imul hx hb dX11_kinOf_22 ?_
        refine my_bei (v := nI (3 * i)) (pk_mul 3 i) ?_
        refine lv_iadd hx hb dX11_kinOf_23 ?_
        refine my_bei (v := nI (3 * i + 130)) ((nI_add 130 (3 * i)).trans (congrArg nI (show 130 + (3 * i) = 3 * i + 130 by omega))) ?_
        refine lv_istore (lv' := [(5, .int (nI (3 * i + 130))), (0, .ref (g 315)), (1, .int (nI w)), (2, .int q), (3, .int u), (4, .int (nI i))]) hx hb dX11_kinOf_24 hl (by decide) rfl (fun ls hl => ?_)
        refine lv_aload_n hx hb dX11_kinOf_26 rfl (lv_at hl 1 rfl) ?_
        refine va_get (D := G.1) (ci := 10) (v := .ref (g 316)) (C := RX11) (T := TX11) (N := 25) hx hb hts inlX11 hown hG.1 hP 315 (wl_at (by decide) hmo) rfl 0 (by decide) (hts (.fieldLink RX11 7 "SwornListsModel" "st" "[I") w_112) (fun _ h9 => h9) rfl dX11_kinOf_27 ?_
        refine lv_iload hx hb dX11_kinOf_30 (lv_at hl 0 rfl) ?_
        refine lv_iconst (v := 1) hx hb dX11_kinOf_32 (by decide) ?_
        refine lv_iadd hx hb dX11_kinOf_33 ?_
        refine my_bei (v := nI (3 * i + 131)) ((nI_add (3 * i + 130) 1).trans (congrArg nI (show (3 * i + 130) + 1 = 3 * i + 131 by omega))) ?_
        refine va_iald hx hb hG.1 hP 316 0 (wl_at (by decide) hss_) rfl (vp_in_nI (by omega) (by decide)) dX11_kinOf_34 ?_
        refine my_bei (v := ss (3 * i + 131)) (congrArg ss (nI_clamp (n := 3 * i + 131) (by omega))) ?_
        refine lv_aload_n hx hb dX11_kinOf_35 rfl (lv_at hl 1 rfl) ?_
        refine lv_iload_n hx hb dX11_kinOf_36 rfl (lv_at hl 2 rfl) ?_
        refine lv_iconst (v := 3) hx hb dX11_kinOf_37 (by decide) ?_
        refine rd_calli (va_runV (As := [.int (nI w), .int 3]) (rest := [.int (ss (3 * i + 131))]) ⟨hx, hb, hml, hown, hts⟩ (r_ofTrial l G g hg f ab2 be2 sn wn sa ly rdy fd ss w 3 hmo hss_ (by first | assumption | omega | decide)) (my_cwV hts ok_X11_ofTrial w_532 rfl rfl ⟨Nat.le_of_ble_eq_true rfl, Nat.le_of_ble_eq_true rfl⟩) ⟨bP.blind, va_recv hG.1 hP (ci := 10) (q0 := 315) rfl (wl_at (by decide) hmo), fun U hU hW => ⟨rfl, by rw [hU]; exact hP, kG.warm hW hG⟩⟩ rfl rfl hl.1 rfl (lv_room (Nat.le_of_ble_eq_true rfl)) dX11_kinOf_38 ⟨Nat.le_of_ble_eq_true rfl, Nat.le_of_ble_eq_true rfl⟩) (fun r hr9 => ?_)
        subst hr9
        refine my_bei (v := ss (10 * w + 1549)) (congrArg ss (show 10 * w + 3 + 1546 = 10 * w + 1549 by omega)) ?_
        refine lv_icmp_eq (tgt := 62) hx hb dX11_kinOf_41 (by decide) (fun c_41 => ?_) (fun c_41 => ?_)
        · refine lv_iconst (v := 1) hx hb dX11_kinOf_62 (by decide) ?_
          refine lv_goto (tgt := 67) hx hb dX11_kinOf_63 (by decide) ?_
          refine lv_istore (lv' := [(6, .int 1), (5, .int (nI (3 * i + 130))), (0, .ref (g 315)), (1, .int (nI w)), (2, .int q), (3, .int u), (4, .int (nI i))]) hx hb dX11_kinOf_67 hl (by decide) rfl (fun ls hl => ?_)
          refine lv_iload_n hx hb dX11_kinOf_69 rfl (lv_at hl 5 rfl) ?_
          refine lv_iload hx hb dX11_kinOf_70 (lv_at hl 0 rfl) ?_
          refine lv_if_eq (tgt := 100) hx hb dX11_kinOf_72 (by decide) (fun c_72 => absurd c_72 (by decide)) (fun c_72 => ?_)
          refine lv_aload_n hx hb dX11_kinOf_75 rfl (lv_at hl 2 rfl) ?_
          refine va_get (D := G.1) (ci := 10) (v := .ref (g 316)) (C := RX11) (T := TX11) (N := 25) hx hb hts inlX11 hown hG.1 hP 315 (wl_at (by decide) hmo) rfl 0 (by decide) (hts (.fieldLink RX11 7 "SwornListsModel" "st" "[I") w_112) (fun _ h9 => h9) rfl dX11_kinOf_76 ?_
          refine lv_iload hx hb dX11_kinOf_79 (lv_at hl 1 rfl) ?_
          refine lv_iconst (v := 2) hx hb dX11_kinOf_81 (by decide) ?_
          refine lv_iadd hx hb dX11_kinOf_82 ?_
          refine my_bei (v := nI (3 * i + 132)) ((nI_add (3 * i + 130) 2).trans (congrArg nI (show (3 * i + 130) + 2 = 3 * i + 132 by omega))) ?_
          refine va_iald hx hb hG.1 hP 316 0 (wl_at (by decide) hss_) rfl (vp_in_nI (by omega) (by decide)) dX11_kinOf_83 ?_
          refine my_bei (v := ss (3 * i + 132)) (congrArg ss (nI_clamp (n := 3 * i + 132) (by omega))) ?_
          refine lv_iload_n hx hb dX11_kinOf_84 rfl (lv_at hl 4 rfl) ?_
          refine lv_icmp_gt (tgt := 100) hx hb dX11_kinOf_85 (by decide) (fun c_85 => ?_) (fun c_85 => ?_)
          · refine lv_iconst (v := 0) hx hb dX11_kinOf_100 (by decide) ?_
            refine lv_ior hx hb dX11_kinOf_101 ?_
            refine my_bei (v := u) (or0 u) ?_
            refine lv_istore_n (lv' := [(3, .int u), (6, .int 1), (5, .int (nI (3 * i + 130))), (0, .ref (g 315)), (1, .int (nI w)), (2, .int q), (4, .int (nI i))]) hx hb dX11_kinOf_102 rfl hl (by decide) rfl (fun ls hl => ?_)
            refine lv_iinc (v := nI (i + 1)) (lv' := [(4, .int (nI (i + 1))), (3, .int u), (6, .int 1), (5, .int (nI (3 * i + 130))), (0, .ref (g 315)), (1, .int (nI w)), (2, .int q)]) hx hb dX11_kinOf_103 hl (k := 6) rfl (nI_add i 1) (by decide) rfl (fun ls hl => ?_)
            refine lv_goto (tgt := 5) hx hb dX11_kinOf_106 (by decide) ?_
            exact ih_1 (i + 1) u _ (by omega) (by rw [hu, knV_n (F := (fun i c => ss (3 * i + c + 130))) (fun z => absurd z.2 (Int32.not_le.mpr c_85))]) (by omega) (lv_sub hl [4, 5, 6, 1, 0] rfl)
          · refine lv_iconst (v := 1) hx hb dX11_kinOf_88 (by decide) ?_
            refine lv_aload_n hx hb dX11_kinOf_89 rfl (lv_at hl 2 rfl) ?_
            refine va_get (D := G.1) (ci := 10) (v := .ref (g 316)) (C := RX11) (T := TX11) (N := 25) hx hb hts inlX11 hown hG.1 hP 315 (wl_at (by decide) hmo) rfl 0 (by decide) (hts (.fieldLink RX11 7 "SwornListsModel" "st" "[I") w_112) (fun _ h9 => h9) rfl dX11_kinOf_90 ?_
            refine lv_iload hx hb dX11_kinOf_93 (lv_at hl 1 rfl) ?_
            refine va_iald hx hb hG.1 hP 316 0 (wl_at (by decide) hss_) rfl (vp_in_nI (by omega) (by decide)) dX11_kinOf_95 ?_
            refine my_bei (v := ss (3 * i + 130)) (congrArg ss (nI_clamp (n := 3 * i + 130) (by omega))) ?_
            refine lv_ishl hx hb dX11_kinOf_96 ?_
            refine lv_goto (tgt := 101) hx hb dX11_kinOf_97 (by decide) ?_
            refine lv_ior hx hb dX11_kinOf_101 ?_
            refine lv_istore_n (lv' := [(3, .int (u ||| (1 <<< ((ss (3 * i + 130)) &&& 31)))), (6, .int 1), (5, .int (nI (3 * i + 130))), (0, .ref (g 315)), (1, .int (nI w)), (2, .int q), (4, .int (nI i))]) hx hb dX11_kinOf_102 rfl hl (by decide) rfl (fun ls hl => ?_)
            refine lv_iinc (v := nI (i + 1)) (lv' := [(4, .int (nI (i + 1))), (3, .int (u ||| (1 <<< ((ss (3 * i + 130)) &&& 31)))), (6, .int 1), (5, .int (nI (3 * i + 130))), (0, .ref (g 315)), (1, .int (nI w)), (2, .int q)]) hx hb dX11_kinOf_103 hl (k := 6) rfl (nI_add i 1) (by decide) rfl (fun ls hl => ?_)
            refine lv_goto (tgt := 5) hx hb dX11_kinOf_106 (by decide) ?_
            exact ih_1 (i + 1) (u ||| (1 <<< ((ss (3 * i + 130)) &&& 31))) _ (by omega) (by rw [hu, knV_y (F := (fun i c => ss (3 * i + c + 130))) ⟨Or.inl c_41, Int32.not_lt.mp c_85⟩]) (by omega) (lv_sub hl [4, 5, 6, 1, 0] rfl)
        · refine lv_aload_n hx hb dX11_kinOf_44 rfl (lv_at hl 1 rfl) ?_
          refine va_get (D := G.1) (ci := 10) (v := .ref (g 316)) (C := RX11) (T := TX11) (N := 25) hx hb hts inlX11 hown hG.1 hP 315 (wl_at (by decide) hmo) rfl 0 (by decide) (hts (.fieldLink RX11 7 "SwornListsModel" "st" "[I") w_112) (fun _ h9 => h9) rfl dX11_kinOf_45 ?_
          refine lv_iload hx hb dX11_kinOf_48 (lv_at hl 0 rfl) ?_
          refine lv_iconst (v := 1) hx hb dX11_kinOf_50 (by decide) ?_
          refine lv_iadd hx hb dX11_kinOf_51 ?_
          refine my_bei (v := nI (3 * i + 131)) ((nI_add (3 * i + 130) 1).trans (congrArg nI (show (3 * i + 130) + 1 = 3 * i + 131 by omega))) ?_
          refine va_iald hx hb hG.1 hP 316 0 (wl_at (by decide) hss_) rfl (vp_in_nI (by omega) (by decide)) dX11_kinOf_52 ?_
          refine my_bei (v := ss (3 * i + 131)) (congrArg ss (nI_clamp (n := 3 * i + 131) (by omega))) ?_
          refine lv_aload_n hx hb dX11_kinOf_53 rfl (lv_at hl 1 rfl) ?_
          refine lv_iload_n hx hb dX11_kinOf_54 rfl (lv_at hl 2 rfl) ?_
          refine lv_iconst (v := 4) hx hb dX11_kinOf_55 (by decide) ?_
          refine rd_calli (va_runV (As := [.int (nI w), .int 4]) (rest := [.int (ss (3 * i + 131))]) ⟨hx, hb, hml, hown, hts⟩ (r_ofTrial l G g hg f ab2 be2 sn wn sa ly rdy fd ss w 4 hmo hss_ (by first | assumption | omega | decide)) (my_cwV hts ok_X11_ofTrial w_532 rfl rfl ⟨Nat.le_of_ble_eq_true rfl, Nat.le_of_ble_eq_true rfl⟩) ⟨bP.blind, va_recv hG.1 hP (ci := 10) (q0 := 315) rfl (wl_at (by decide) hmo), fun U hU hW => ⟨rfl, by rw [hU]; exact hP, kG.warm hW hG⟩⟩ rfl rfl hl.1 rfl (lv_room (Nat.le_of_ble_eq_true rfl)) dX11_kinOf_56 ⟨Nat.le_of_ble_eq_true rfl, Nat.le_of_ble_eq_true rfl⟩) (fun r hr9 => ?_)
          subst hr9
          refine my_bei (v := ss (10 * w + 1550)) (congrArg ss (show 10 * w + 4 + 1546 = 10 * w + 1550 by omega)) ?_
          refine lv_icmp_ne (tgt := 66) hx hb dX11_kinOf_59 (by decide) (fun c_59 => ?_) (fun c_59 => ?_)
          · refine lv_iconst (v := 0) hx hb dX11_kinOf_66 (by decide) ?_
            refine lv_istore (lv' := [(6, .int 0), (5, .int (nI (3 * i + 130))), (0, .ref (g 315)), (1, .int (nI w)), (2, .int q), (3, .int u), (4, .int (nI i))]) hx hb dX11_kinOf_67 hl (by decide) rfl (fun ls hl => ?_)
            refine lv_iload_n hx hb dX11_kinOf_69 rfl (lv_at hl 5 rfl) ?_
            refine lv_iload hx hb dX11_kinOf_70 (lv_at hl 0 rfl) ?_
            refine lv_if_eq (tgt := 100) hx hb dX11_kinOf_72 (by decide) (fun c_72 => ?_) (fun c_72 => absurd (by decide) c_72)
            refine lv_iconst (v := 0) hx hb dX11_kinOf_100 (by decide) ?_
            refine lv_ior hx hb dX11_kinOf_101 ?_
            refine my_bei (v := u) (or0 u) ?_
            refine lv_istore_n (lv' := [(3, .int u), (6, .int 0), (5, .int (nI (3 * i + 130))), (0, .ref (g 315)), (1, .int (nI w)), (2, .int q), (4, .int (nI i))]) hx hb dX11_kinOf_102 rfl hl (by decide) rfl (fun ls hl => ?_)
            refine lv_iinc (v := nI (i + 1)) (lv' := [(4, .int (nI (i + 1))), (3, .int u), (6, .int 0), (5, .int (nI (3 * i + 130))), (0, .ref (g 315)), (1, .int (nI w)), (2, .int q)]) hx hb dX11_kinOf_103 hl (k := 6) rfl (nI_add i 1) (by decide) rfl (fun ls hl => ?_)
            refine lv_goto (tgt := 5) hx hb dX11_kinOf_106 (by decide) ?_
            exact ih_1 (i + 1) u _ (by omega) (by rw [hu, knV_n (F := (fun i c => ss (3 * i + c + 130))) (fun z => z.1.elim c_41 c_59)]) (by omega) (lv_sub hl [4, 5, 6, 1, 0] rfl)
          · refine lv_iconst (v := 1) hx hb dX11_kinOf_62 (by decide) ?_
            refine lv_goto (tgt := 67) hx hb dX11_kinOf_63 (by decide) ?_
            refine lv_istore (lv' := [(6, .int 1), (5, .int (nI (3 * i + 130))), (0, .ref (g 315)), (1, .int (nI w)), (2, .int q), (3, .int u), (4, .int (nI i))]) hx hb dX11_kinOf_67 hl (by decide) rfl (fun ls hl => ?_)
            refine lv_iload_n hx hb dX11_kinOf_69 rfl (lv_at hl 5 rfl) ?_
            refine lv_iload hx hb dX11_kinOf_70 (lv_at hl 0 rfl) ?_
            refine lv_if_eq (tgt := 100) hx hb dX11_kinOf_72 (by decide) (fun c_72 => absurd c_72 (by decide)) (fun c_72 => ?_)
            refine lv_aload_n hx hb dX11_kinOf_75 rfl (lv_at hl 2 rfl) ?_
            refine va_get (D := G.1) (ci := 10) (v := .ref (g 316)) (C := RX11) (T := TX11) (N := 25) hx hb hts inlX11 hown hG.1 hP 315 (wl_at (by decide) hmo) rfl 0 (by decide) (hts (.fieldLink RX11 7 "SwornListsModel" "st" "[I") w_112) (fun _ h9 => h9) rfl dX11_kinOf_76 ?_
            refine lv_iload hx hb dX11_kinOf_79 (lv_at hl 1 rfl) ?_
            refine lv_iconst (v := 2) hx hb dX11_kinOf_81 (by decide) ?_
            refine lv_iadd hx hb dX11_kinOf_82 ?_
            refine my_bei (v := nI (3 * i + 132)) ((nI_add (3 * i + 130) 2).trans (congrArg nI (show (3 * i + 130) + 2 = 3 * i + 132 by omega))) ?_
            refine va_iald hx hb hG.1 hP 316 0 (wl_at (by decide) hss_) rfl (vp_in_nI (by omega) (by decide)) dX11_kinOf_83 ?_
            refine my_bei (v := ss (3 * i + 132)) (congrArg ss (nI_clamp (n := 3 * i + 132) (by omega))) ?_
            refine lv_iload_n hx hb dX11_kinOf_84 rfl (lv_at hl 4 rfl) ?_
            refine lv_icmp_gt (tgt := 100) hx hb dX11_kinOf_85 (by decide) (fun c_85 => ?_) (fun c_85 => ?_)
            · refine lv_iconst (v := 0) hx hb dX11_kinOf_100 (by decide) ?_
              refine lv_ior hx hb dX11_kinOf_101 ?_
              refine my_bei (v := u) (or0 u) ?_
              refine lv_istore_n (lv' := [(3, .int u), (6, .int 1), (5, .int (nI (3 * i + 130))), (0, .ref (g 315)), (1, .int (nI w)), (2, .int q), (4, .int (nI i))]) hx hb dX11_kinOf_102 rfl hl (by decide) rfl (fun ls hl => ?_)
              refine lv_iinc (v := nI (i + 1)) (lv' := [(4, .int (nI (i + 1))), (3, .int u), (6, .int 1), (5, .int (nI (3 * i + 130))), (0, .ref (g 315)), (1, .int (nI w)), (2, .int q)]) hx hb dX11_kinOf_103 hl (k := 6) rfl (nI_add i 1) (by decide) rfl (fun ls hl => ?_)
              refine lv_goto (tgt := 5) hx hb dX11_kinOf_106 (by decide) ?_
              exact ih_1 (i + 1) u _ (by omega) (by rw [hu, knV_n (F := (fun i c => ss (3 * i + c + 130))) (fun z => absurd z.2 (Int32.not_le.mpr c_85))]) (by omega) (lv_sub hl [4, 5, 6, 1, 0] rfl)
            · refine lv_iconst (v := 1) hx hb dX11_kinOf_88 (by decide) ?_
              refine lv_aload_n hx hb dX11_kinOf_89 rfl (lv_at hl 2 rfl) ?_
              refine va_get (D := G.1) (ci := 10) (v := .ref (g 316)) (C := RX11) (T := TX11) (N := 25) hx hb hts inlX11 hown hG.1 hP 315 (wl_at (by decide) hmo) rfl 0 (by decide) (hts (.fieldLink RX11 7 "SwornListsModel" "st" "[I") w_112) (fun _ h9 => h9) rfl dX11_kinOf_90 ?_
              refine lv_iload hx hb dX11_kinOf_93 (lv_at hl 1 rfl) ?_
              refine va_iald hx hb hG.1 hP 316 0 (wl_at (by decide) hss_) rfl (vp_in_nI (by omega) (by decide)) dX11_kinOf_95 ?_
              refine my_bei (v := ss (3 * i + 130)) (congrArg ss (nI_clamp (n := 3 * i + 130) (by omega))) ?_
              refine lv_ishl hx hb dX11_kinOf_96 ?_
              refine lv_goto (tgt := 101) hx hb dX11_kinOf_97 (by decide) ?_
              refine lv_ior hx hb dX11_kinOf_101 ?_
              refine lv_istore_n (lv' := [(3, .int (u ||| (1 <<< ((ss (3 * i + 130)) &&& 31)))), (6, .int 1), (5, .int (nI (3 * i + 130))), (0, .ref (g 315)), (1, .int (nI w)), (2, .int q), (4, .int (nI i))]) hx hb dX11_kinOf_102 rfl hl (by decide) rfl (fun ls hl => ?_)
              refine lv_iinc (v := nI (i + 1)) (lv' := [(4, .int (nI (i + 1))), (3, .int (u ||| (1 <<< ((ss (3 * i + 130)) &&& 31)))), (6, .int 1), (5, .int (nI (3 * i + 130))), (0, .ref (g 315)), (1, .int (nI w)), (2, .int q)]) hx hb dX11_kinOf_103 hl (k := 6) rfl (nI_add i 1) (by decide) rfl (fun ls hl => ?_)
              refine lv_goto (tgt := 5) hx hb dX11_kinOf_106 (by decide) ?_
              exact ih_1 (i + 1) (u ||| (1 <<< ((ss (3 * i + 130)) &&& 31))) _ (by omega) (by rw [hu, knV_y (F := (fun i c => ss (3 * i + c + 130))) ⟨Or.inr c_59, Int32.not_lt.mp c_85⟩]) (by omega) (lv_sub hl [4, 5, 6, 1, 0] rfl)
  exact key1 (nf + 1) 0 0 _ (Nat.zero_le _) (rfl) (by omega) (lv_sub hl [2, 3, 4, 1, 0] rfl)
set_option maxHeartbeats 4000000 in
set_option maxRecDepth 100000 in
theorem r_sittingE (l : Launch) (G : gW) (g : Nat → Nat) (hg : gOK g) (f : Nat → va_E) (ab2 : Int64) (be2 : Int64) (sn : Int32) (wn : Int32) (sa : Int32) (ly : Int32) (rdy : Int32) (fd : Int32) (ss : Nat → Int32) (ju : Nat → Int32) (w : Nat) (hmo : f 315 = eO 10 [.ref (g 316), .ref (g 317), .ref (g 318), .long ab2, .long be2, .int sn, .ref (g 319), .ref (g 320), .int wn, .ref (g 321), .ref (g 322), .int sa, .int ly, .int rdy, .int fd, .ref (g 323), .ref (g 324), .ref (g 325), .ref (g 326), .ref (g 327), .ref (g 328), .ref (g 329), .ref (g 330), .ref (g 331), .ref (g 332)]) (hss_ : f 316 = eI G 2246 ss) (hju_ : f 324 = eI G 11 ju) (hw : w < 11) (hs1 : ∀ o, o < w → ¬ ss (10 * w + 1546) + ss (10 * w + 1547) ≤ ss (10 * o + 1546)) (hs2 : ∀ o, o < w → (ss (10 * o + 1546) + ss (10 * o + 1547) ≤ ss (10 * w + 1546) ↔ ¬ ss (10 * w + 1546) ≤ ss (10 * o + 1546) + ss (10 * o + 1547) - 1)) : Met l yX11_sitting (wsT yX11_sitting cX11_sitting 5 (some .int)) ({ frames := 1, cells := 0, slots := 0, locals := 22 }) (bP G g f [.ref (g 315), .int (nI w)]) (rQi (fun z9 => z9 = bzV (fun t c => ss (10 * t + c + 1546)) ju w w)) 0 0 fr0 := by
  refine Met.ofW (cc := cX11_sitting) (maxL := 5) (ret := (some .int)) (by decide) rfl ?_
  intro p e s m args below meth c s₁ B hml hv
  obtain ⟨rfl, hP, hG⟩ := hv
  have hx := B.exec
  have hb := B.bytes
  have hr := B.returns
  have hts := my_hts (atoms_spec (ws := wsT yX11_sitting cX11_sitting 5 (some .int)) B.pre)
  have hown : s.vm.findClass RX11 = some m.cls := findClass_of_methodNamed B.named
  have hlocks := B.notSynchronized
  have hl := lv_entry ([.ref (g 315), .int (nI w)]) (n := 5) (Nat.le_of_ble_eq_true rfl)
  rw [lg_entry_eq]
  generalize (lg_sl ([.ref (g 315), .int (nI w)]) ++ List.replicate (5 - (lg_sl ([.ref (g 315), .int (nI w)])).length) Slot.unset).toArray = ls at hl ⊢
  have hl : lv_has ls 5 [(0, .ref (g 315)), (1, .int (nI w))] := hl
  refine W_q8 (fun Q9 hQ9 => ?_)
  refine lv_iconst (v := 0) hx hb dX11_sitting_0 (by decide) ?_
  refine lv_istore_n (lv' := [(2, .int 0), (0, .ref (g 315)), (1, .int (nI w))]) hx hb dX11_sitting_1 rfl hl (by decide) rfl (fun ls hl => ?_)
  refine lv_iconst (v := 0) hx hb dX11_sitting_2 (by decide) ?_
  refine lv_istore_n (lv' := [(3, .int 0), (2, .int 0), (0, .ref (g 315)), (1, .int (nI w))]) hx hb dX11_sitting_3 rfl hl (by decide) rfl (fun ls hl => ?_)
  have key1 : ∀ (n9_1 : Nat) (i : Nat) (u : Int32) (ls : Array Slot), (i ≤ w) → (u = bzV (fun t c => ss (10 * t + c + 1546)) ju w i) → w - i < n9_1 → lv_has ls 5 [(0, .ref (g 315)), (1, .int (nI w)), (2, .int u), (3, .int (nI i))] → W p l e (headSpec (wsT yX11_sitting cX11_sitting 5 (some .int)) ({ frames := 1, cells := 0, slots := 0, locals := 22 })).room s m ([.ref (g 315), .int (nI w)] : List Value).toArray below meth c s.heap [] 0 0 Q9 (F0 m 4 ls []) := by
    intro n9_1
    induction n9_1 with
    | zero => intro i u ls hi hu hn9_1; exact absurd hn9_1 (Nat.not_lt_zero _)
    | succ n9_1 ih_1 =>
      intro i u ls hi hu hn9_1 hl
      refine lv_iload_n hx hb dX11_sitting_4 rfl (lv_at hl 3 rfl) ?_
      refine lv_iload_n hx hb dX11_sitting_5 rfl (lv_at hl 1 rfl) ?_
      refine lv_icmp_ge (tgt := 84) hx hb dX11_sitting_6 (by decide) (fun c_6 => ?_) (fun c_6 => ?_)
      · have k_6 : w ≤ i := (nI_leI (a := w) (b := i) (by omega) (by omega)).mp c_6
        refine lv_iload_n hx hb dX11_sitting_84 rfl (lv_at hl 2 rfl) ?_
        refine W_q9 hQ9 ?_
        exact W.iret (v := u) hx hb hr (fun _ hT9 _ => ⟨_, rfl, (by rw [hu, show i = w by omega]), hT9⟩) (fun _ h => absurd h List.not_mem_nil) dX11_sitting_85
      · have k_6 : ¬ w ≤ i := fun z9 => c_6 ((nI_leI (a := w) (b := i) (by omega) (by omega)).mpr z9)
        have hi9 : i < w := by omega
        refine lv_aload_n hx hb dX11_sitting_9 rfl (lv_at hl 0 rfl) ?_
        refine lv_iload_n hx hb dX11_sitting_10 rfl (lv_at hl 3 rfl) ?_
        refine lv_iconst (v := 0) hx hb dX11_sitting_11 (by decide) ?_
        refine rd_calli (va_runV (As := [.int (nI i), .int 0]) (rest := []) ⟨hx, hb, hml, hown, hts⟩ (r_ofTrial l G g hg f ab2 be2 sn wn sa ly rdy fd ss i 0 hmo hss_ (by first | assumption | omega | decide)) (my_cwV hts ok_X11_ofTrial w_532 rfl rfl ⟨Nat.le_of_ble_eq_true rfl, Nat.le_of_ble_eq_true rfl⟩) ⟨bP.blind, va_recv hG.1 hP (ci := 10) (q0 := 315) rfl (wl_at (by decide) hmo), fun U hU hW => ⟨rfl, by rw [hU]; exact hP, kG.warm hW hG⟩⟩ rfl rfl hl.1 rfl (lv_room (Nat.le_of_ble_eq_true rfl)) dX11_sitting_12 ⟨Nat.le_of_ble_eq_true rfl, Nat.le_of_ble_eq_true rfl⟩) (fun r hr9 => ?_)
        subst hr9
        refine my_bei (v := ss (10 * i + 1546)) (congrArg ss (show 10 * i + 0 + 1546 = 10 * i + 1546 by omega)) ?_
        refine lv_aload_n hx hb dX11_sitting_15 rfl (lv_at hl 0 rfl) ?_
        refine lv_iload_n hx hb dX11_sitting_16 rfl (lv_at hl 1 rfl) ?_
        refine lv_iconst (v := 0) hx hb dX11_sitting_17 (by decide) ?_
        refine rd_calli (va_runV (As := [.int (nI w), .int 0]) (rest := [.int (ss (10 * i + 1546))]) ⟨hx, hb, hml, hown, hts⟩ (r_ofTrial l G g hg f ab2 be2 sn wn sa ly rdy fd ss w 0 hmo hss_ (by first | assumption | omega | decide)) (my_cwV hts ok_X11_ofTrial w_532 rfl rfl ⟨Nat.le_of_ble_eq_true rfl, Nat.le_of_ble_eq_true rfl⟩) ⟨bP.blind, va_recv hG.1 hP (ci := 10) (q0 := 315) rfl (wl_at (by decide) hmo), fun U hU hW => ⟨rfl, by rw [hU]; exact hP, kG.warm hW hG⟩⟩ rfl rfl hl.1 rfl (lv_room (Nat.le_of_ble_eq_true rfl)) dX11_sitting_18 ⟨Nat.le_of_ble_eq_true rfl, Nat.le_of_ble_eq_true rfl⟩) (fun r hr9 => ?_)
        subst hr9
        refine my_bei (v := ss (10 * w + 1546)) (congrArg ss (show 10 * w + 0 + 1546 = 10 * w + 1546 by omega)) ?_
        refine lv_aload_n hx hb dX11_sitting_21 rfl (lv_at hl 0 rfl) ?_
        refine lv_iload_n hx hb dX11_sitting_22 rfl (lv_at hl 1 rfl) ?_
        refine lv_iconst (v := 1) hx hb dX11_sitting_23 (by decide) ?_
        refine rd_calli (va_runV (As := [.int (nI w), .int 1]) (rest := [.int (ss (10 * w + 1546)), .int (ss (10 * i + 1546))]) ⟨hx, hb, hml, hown, hts⟩ (r_ofTrial l G g hg f ab2 be2 sn wn sa ly rdy fd ss w 1 hmo hss_ (by first | assumption | omega | decide)) (my_cwV hts ok_X11_ofTrial w_532 rfl rfl ⟨Nat.le_of_ble_eq_true rfl, Nat.le_of_ble_eq_true rfl⟩) ⟨bP.blind, va_recv hG.1 hP (ci := 10) (q0 := 315) rfl (wl_at (by decide) hmo), fun U hU hW => ⟨rfl, by rw [hU]; exact hP, kG.warm hW hG⟩⟩ rfl rfl hl.1 rfl (lv_room (Nat.le_of_ble_eq_true rfl)) dX11_sitting_24 ⟨Nat.le_of_ble_eq_true rfl, Nat.le_of_ble_eq_true rfl⟩) (fun r hr9 => ?_)
        subst hr9
        refine my_bei (v := ss (10 * w + 1547)) (congrArg ss (show 10 * w + 1 + 1546 = 10 * w + 1547 by omega)) ?_
        refine lv_iadd hx hb dX11_sitting_27 ?_
        refine lv_icmp_ge (tgt := 57) hx hb dX11_sitting_28 (by decide) (fun c_28 => absurd c_28 (hs1 i hi9)) (fun c_28 => ?_)
        refine lv_aload_n hx hb dX11_sitting_31 rfl (lv_at hl 0 rfl) ?_
        refine lv_iload_n hx hb dX11_sitting_32 rfl (lv_at hl 1 rfl) ?_
        refine lv_iconst (v := 0) hx hb dX11_sitting_33 (by decide) ?_
        refine rd_calli (va_runV (As := [.int (nI w), .int 0]) (rest := []) ⟨hx, hb, hml, hown, hts⟩ (r_ofTrial l G g hg f ab2 be2 sn wn sa ly rdy fd ss w 0 hmo hss_ (by first | assumption | omega | decide)) (my_cwV hts ok_X11_ofTrial w_532 rfl rfl ⟨Nat.le_of_ble_eq_true rfl, Nat.le_of_ble_eq_true rfl⟩) ⟨bP.blind, va_recv hG.1 hP (ci := 10) (q0 := 315) rfl (wl_at (by decide) hmo), fun U hU hW => ⟨rfl, by rw [hU]; exact hP, kG.warm hW hG⟩⟩ rfl rfl hl.1 rfl (lv_room (Nat.le_of_ble_eq_true rfl)) dX11_sitting_34 ⟨Nat.le_of_ble_eq_true rfl, Nat.le_of_ble_eq_true rfl⟩) (fun r hr9 => ?_)
        subst hr9
        refine my_bei (v := ss (10 * w + 1546)) (congrArg ss (show 10 * w + 0 + 1546 = 10 * w + 1546 by omega)) ?_
        refine lv_aload_n hx hb dX11_sitting_37 rfl (lv_at hl 0 rfl) ?_
        refine lv_iload_n hx hb dX11_sitting_38 rfl (lv_at hl 3 rfl) ?_
        refine lv_iconst (v := 0) hx hb dX11_sitting_39 (by decide) ?_
        refine rd_calli (va_runV (As := [.int (nI i), .int 0]) (rest := [.int (ss (10 * w + 1546))]) ⟨hx, hb, hml, hown, hts⟩ (r_ofTrial l G g hg f ab2 be2 sn wn sa ly rdy fd ss i 0 hmo hss_ (by first | assumption | omega | decide)) (my_cwV hts ok_X11_ofTrial w_532 rfl rfl ⟨Nat.le_of_ble_eq_true rfl, Nat.le_of_ble_eq_true rfl⟩) ⟨bP.blind, va_recv hG.1 hP (ci := 10) (q0 := 315) rfl (wl_at (by decide) hmo), fun U hU hW => ⟨rfl, by rw [hU]; exact hP, kG.warm hW hG⟩⟩ rfl rfl hl.1 rfl (lv_room (Nat.le_of_ble_eq_true rfl)) dX11_sitting_40 ⟨Nat.le_of_ble_eq_true rfl, Nat.le_of_ble_eq_true rfl⟩) (fun r hr9 => ?_)
        subst hr9
        refine my_bei (v := ss (10 * i + 1546)) (congrArg ss (show 10 * i + 0 + 1546 = 10 * i + 1546 by omega)) ?_
        refine lv_aload_n hx hb dX11_sitting_43 rfl (lv_at hl 0 rfl) ?_
        refine lv_iload_n hx hb dX11_sitting_44 rfl (lv_at hl 3 rfl) ?_
        refine lv_iconst (v := 1) hx hb dX11_sitting_45 (by decide) ?_
        refine rd_calli (va_runV (As := [.int (nI i), .int 1]) (rest := [.int (ss (10 * i + 1546)), .int (ss (10 * w + 1546))]) ⟨hx, hb, hml, hown, hts⟩ (r_ofTrial l G g hg f ab2 be2 sn wn sa ly rdy fd ss i 1 hmo hss_ (by first | assumption | omega | decide)) (my_cwV hts ok_X11_ofTrial w_532 rfl rfl ⟨Nat.le_of_ble_eq_true rfl, Nat.le_of_ble_eq_true rfl⟩) ⟨bP.blind, va_recv hG.1 hP (ci := 10) (q0 := 315) rfl (wl_at (by decide) hmo), fun U hU hW => ⟨rfl, by rw [hU]; exact hP, kG.warm hW hG⟩⟩ rfl rfl hl.1 rfl (lv_room (Nat.le_of_ble_eq_true rfl)) dX11_sitting_46 ⟨Nat.le_of_ble_eq_true rfl, Nat.le_of_ble_eq_true rfl⟩) (fun r hr9 => ?_)
        subst hr9
        refine my_bei (v := ss (10 * i + 1547)) (congrArg ss (show 10 * i + 1 + 1546 = 10 * i + 1547 by omega)) ?_
        refine lv_iadd hx hb dX11_sitting_49 ?_
        refine lv_icmp_ge (tgt := 57) hx hb dX11_sitting_50 (by decide) (fun c_50 => ?_) (fun c_50 => ?_)
        · refine lv_iconst (v := 0) hx hb dX11_sitting_57 (by decide) ?_
          refine lv_istore (lv' := [(4, .int 0), (0, .ref (g 315)), (1, .int (nI w)), (2, .int u), (3, .int (nI i))]) hx hb dX11_sitting_58 hl (by decide) rfl (fun ls hl => ?_)
          refine lv_iload_n hx hb dX11_sitting_60 rfl (lv_at hl 3 rfl) ?_
          refine lv_iload hx hb dX11_sitting_61 (lv_at hl 0 rfl) ?_
          refine lv_if_eq (tgt := 75) hx hb dX11_sitting_63 (by decide) (fun c_63 => ?_) (fun c_63 => absurd (by decide) c_63)
          refine lv_iconst (v := 0) hx hb dX11_sitting_75 (by decide) ?_
          refine lv_ior hx hb dX11_sitting_76 ?_
          refine my_bei (v := u) (or0 u) ?_
          refine lv_istore_n (lv' := [(2, .int u), (4, .int 0), (0, .ref (g 315)), (1, .int (nI w)), (3, .int (nI i))]) hx hb dX11_sitting_77 rfl hl (by decide) rfl (fun ls hl => ?_)
          refine lv_iinc (v := nI (i + 1)) (lv' := [(3, .int (nI (i + 1))), (2, .int u), (4, .int 0), (0, .ref (g 315)), (1, .int (nI w))]) hx hb dX11_sitting_78 hl (k := 4) rfl (nI_add i 1) (by decide) rfl (fun ls hl => ?_)
          refine lv_goto (tgt := 4) hx hb dX11_sitting_81 (by decide) ?_
          exact ih_1 (i + 1) u _ (by omega) (by rw [hu, bzV_n (T := (fun t c => ss (10 * t + c + 1546))) (J := ju) (t := w) ((hs2 i hi9).mp c_50)]) (by omega) (lv_sub hl [3, 4, 1, 0] rfl)
        · refine lv_iconst (v := 1) hx hb dX11_sitting_53 (by decide) ?_
          refine lv_goto (tgt := 58) hx hb dX11_sitting_54 (by decide) ?_
          refine lv_istore (lv' := [(4, .int 1), (0, .ref (g 315)), (1, .int (nI w)), (2, .int u), (3, .int (nI i))]) hx hb dX11_sitting_58 hl (by decide) rfl (fun ls hl => ?_)
          refine lv_iload_n hx hb dX11_sitting_60 rfl (lv_at hl 3 rfl) ?_
          refine lv_iload hx hb dX11_sitting_61 (lv_at hl 0 rfl) ?_
          refine lv_if_eq (tgt := 75) hx hb dX11_sitting_63 (by decide) (fun c_63 => absurd c_63 (by decide)) (fun c_63 => ?_)
          refine lv_aload_n hx hb dX11_sitting_66 rfl (lv_at hl 1 rfl) ?_
          refine va_get (D := G.1) (ci := 10) (v := .ref (g 324)) (C := RX11) (T := TX11) (N := 25) hx hb hts inlX11 hown hG.1 hP 315 (wl_at (by decide) hmo) rfl 16 (by decide) (hts (.fieldLink RX11 36 "SwornListsModel" "juries" "[I") w_120) (fun _ h9 => h9) rfl dX11_sitting_67 ?_
          refine lv_iload_n hx hb dX11_sitting_70 rfl (lv_at hl 4 rfl) ?_
          refine va_iald hx hb hG.1 hP 324 0 (wl_at (by decide) hju_) rfl (vp_in_nI (by omega) (by decide)) dX11_sitting_71 ?_
          refine my_bei (v := ju i) (congrArg ju (nI_clamp (n := i) (by omega))) ?_
          refine lv_goto (tgt := 76) hx hb dX11_sitting_72 (by decide) ?_
          refine lv_ior hx hb dX11_sitting_76 ?_
          refine lv_istore_n (lv' := [(2, .int (u ||| (ju i))), (4, .int 1), (0, .ref (g 315)), (1, .int (nI w)), (3, .int (nI i))]) hx hb dX11_sitting_77 rfl hl (by decide) rfl (fun ls hl => ?_)
          refine lv_iinc (v := nI (i + 1)) (lv' := [(3, .int (nI (i + 1))), (2, .int (u ||| (ju i))), (4, .int 1), (0, .ref (g 315)), (1, .int (nI w))]) hx hb dX11_sitting_78 hl (k := 4) rfl (nI_add i 1) (by decide) rfl (fun ls hl => ?_)
          refine lv_goto (tgt := 4) hx hb dX11_sitting_81 (by decide) ?_
          exact ih_1 (i + 1) (u ||| (ju i)) _ (by omega) (by rw [hu, bzV_y (T := (fun t c => ss (10 * t + c + 1546))) (J := ju) (t := w) (Classical.not_not.mp (fun z => c_50 ((hs2 i hi9).mpr z)))]) (by omega) (lv_sub hl [3, 4, 1, 0] rfl)
  exact key1 (w + 1) 0 0 _ (Nat.zero_le _) (rfl) (by omega) (lv_sub hl [2, 3, 1, 0] rfl)

