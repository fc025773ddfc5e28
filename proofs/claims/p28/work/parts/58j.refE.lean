set_option maxHeartbeats 4000000 in
set_option maxRecDepth 100000 in
theorem r_theRollE (l : Launch) (G : gW) (g : Nat → Nat) (hg : gOK g) (f : Nat → va_E) (ab2 : Int64) (be2 : Int64) (sn : Int32) (wn : Int32) (sa : Int32) (ly : Int32) (rdy : Int32) (fd : Int32) (ss : Nat → Int32) (np : Nat) (nf : Nat) (nr : Nat) (na : Nat) (nt : Nat) (q : Int32) (hmo : f 315 = eO 10 [.ref (g 316), .ref (g 317), .ref (g 318), .long ab2, .long be2, .int sn, .ref (g 319), .ref (g 320), .int wn, .ref (g 321), .ref (g 322), .int sa, .int ly, .int rdy, .int fd, .ref (g 323), .ref (g 324), .ref (g 325), .ref (g 326), .ref (g 327), .ref (g 328), .ref (g 329), .ref (g 330), .ref (g 331), .ref (g 332)]) (hss_ : f 316 = eI G 2246 ss) (hst : stOK ss np nf nr na nt) : Met l yX11_theRoll (wsT yX11_theRoll cX11_theRoll 5 (some .int)) ({ frames := 1, cells := 0, slots := 0, locals := 20 }) (bP G g f [.ref (g 315), .int q]) (rQi (fun z9 => z9 = rlV np nr (fun i c => ss (3 * i + c + 250)) q)) 0 0 fr0 := by
  refine Met.ofW (cc := cX11_theRoll) (maxL := 5) (ret := (some .int)) (by decide) rfl ?_
  intro p e s m args below meth c s₁ B hml hv
  obtain ⟨rfl, hP, hG⟩ := hv
  have hx := B.exec
  have hb := B.bytes
  have hr := B.returns
  have hts := my_hts (atoms_spec (ws := wsT yX11_theRoll cX11_theRoll 5 (some .int)) B.pre)
  have hown : s.vm.findClass RX11 = some m.cls := findClass_of_methodNamed B.named
  have hlocks := B.notSynchronized
  have hl := lv_entry ([.ref (g 315), .int q]) (n := 5) (Nat.le_of_ble_eq_true rfl)
  rw [lg_entry_eq]
  generalize (lg_sl ([.ref (g 315), .int q]) ++ List.replicate (5 - (lg_sl ([.ref (g 315), .int q])).length) Slot.unset).toArray = ls at hl ⊢
  have hl : lv_has ls 5 [(0, .ref (g 315)), (1, .int q)] := hl
  refine W_q8 (fun Q9 hQ9 => ?_)
  have hc0 := hst.c0
  have hc1 := hst.c1
  have hc2 := hst.c2
  have hc3 := hst.c3
  have hc4 := hst.c4
  refine lv_iconst (v := (-1)) hx hb dX11_theRoll_0 (by decide) ?_
  refine lv_istore_n (lv' := [(2, .int (-1)), (0, .ref (g 315)), (1, .int q)]) hx hb dX11_theRoll_1 rfl hl (by decide) rfl (fun ls hl => ?_)
  refine lv_iconst (v := 0) hx hb dX11_theRoll_2 (by decide) ?_
  refine lv_istore_n (lv' := [(3, .int 0), (2, .int (-1)), (0, .ref (g 315)), (1, .int q)]) hx hb dX11_theRoll_3 rfl hl (by decide) rfl (fun ls hl => ?_)
  have key1 : ∀ (n9_1 : Nat) (o1 : Option Nat) (i : Nat) (ls : Array Slot), (i ≤ nr) → (∀ z, o1 = some z → z < nr) → (rlB (fun i c => ss (3 * i + c + 250)) q i = o1) → nr - i < n9_1 → lv_has ls 5 [(0, .ref (g 315)), (1, .int q), (2, .int (fo o1)), (3, .int (nI i))] → W p l e (headSpec (wsT yX11_theRoll cX11_theRoll 5 (some .int)) ({ frames := 1, cells := 0, slots := 0, locals := 20 })).room s m ([.ref (g 315), .int q] : List Value).toArray below meth c s.heap [] 0 0 Q9 (F0 m 4 ls []) := by
    intro n9_1
    induction n9_1 with
    | zero => intro o1 i ls hi ho hB hn9_1; exact absurd hn9_1 (Nat.not_lt_zero _)
    | succ n9_1 ih_1 =>
      intro o1 i ls hi ho hB hn9_1 hl
      refine lv_iload_n hx hb dX11_theRoll_4 rfl (lv_at hl 3 rfl) ?_
      refine lv_aload_n hx hb dX11_theRoll_5 rfl (lv_at hl 0 rfl) ?_
      refine va_get (D := G.1) (ci := 10) (v := .ref (g 316)) (C := RX11) (T := TX11) (N := 25) hx hb hts inlX11 hown hG.1 hP 315 (wl_at (by decide) hmo) rfl 0 (by decide) (hts (.fieldLink RX11 7 "SwornListsModel" "st" "[I") w_112) (fun _ h9 => h9) rfl dX11_theRoll_6 ?_
      refine lv_iconst (v := 2) hx hb dX11_theRoll_9 (by decide) ?_
      refine va_iald hx hb hG.1 hP 316 0 (wl_at (by decide) hss_) rfl (by unfold vp_in; decide) dX11_theRoll_10 ?_
      refine my_bei (v := ss 2) (rfl) ?_
      refine my_bei (v := nI nr) (hst.h2) ?_
      refine lv_icmp_ge (tgt := 92) hx hb dX11_theRoll_11 (by decide) (fun c_11 => ?_) (fun c_11 => ?_)
      · have k_11 : nr ≤ i := (nI_leI (a := nr) (b := i) (by omega) (by omega)).mp c_11
        have hin : i = nr := by omega
        rw [hin] at hB
        refine lv_iload_n hx hb dX11_theRoll_92 rfl (lv_at hl 2 rfl) ?_
        refine lv_iconst (v := (-1)) hx hb dX11_theRoll_93 (by decide) ?_
        refine lv_icmp_ne (tgt := 104) hx hb dX11_theRoll_94 (by decide) (fun c_94 => ?_) (fun c_94 => ?_)
        · obtain ⟨b9, rfl⟩ : ∃ b, o1 = some b := by
            cases o1 with
            | none => exact absurd rfl c_94
            | some z => exact ⟨z, rfl⟩
          have hb9 := ho b9 rfl
          refine lv_aload_n hx hb dX11_theRoll_104 rfl (lv_at hl 0 rfl) ?_
          refine va_get (D := G.1) (ci := 10) (v := .ref (g 316)) (C := RX11) (T := TX11) (N := 25) hx hb hts inlX11 hown hG.1 hP 315 (wl_at (by decide) hmo) rfl 0 (by decide) (hts (.fieldLink RX11 7 "SwornListsModel" "st" "[I") w_112) (fun _ h9 => h9) rfl dX11_theRoll_105 ?_
          refine lv_sipush (v := 250) hx hb dX11_theRoll_108 (by decide) ?_
          refine lv_iconst (v := 3) hx hb dX11_theRoll_111 (by decide) ?_
          refine lv_iload_n hx hb dX11_theRoll_112 rfl (lv_at hl 2 rfl) ?_
          refine lv_imul hx hb dX11_theRoll_113 ?_
          refine my_bei (v := nI (3 * b9)) (pk_mul 3 b9) ?_
          refine lv_iadd hx hb dX11_theRoll_114 ?_
          refine my_bei (v := nI (3 * b9 + 250)) ((nI_add 250 (3 * b9)).trans (congrArg nI (show 250 + (3 * b9) = 3 * b9 + 250 by omega))) ?_
          refine va_iald hx hb hG.1 hP 316 0 (wl_at (by decide) hss_) rfl (vp_in_nI (by omega) (by decide)) dX11_theRoll_115 ?_
          refine my_bei (v := ss (3 * b9 + 250)) (congrArg ss (nI_clamp (n := 3 * b9 + 250) (by omega))) ?_
          refine W_q9 hQ9 ?_
          exact W.iret (v := ss (3 * b9 + 250)) hx hb hr (fun _ hT9 _ => ⟨_, rfl, ((rlV_1 (R := (fun i c => ss (3 * i + c + 250))) hB).symm), hT9⟩) (fun _ h => absurd h List.not_mem_nil) dX11_theRoll_116
        · refine lv_aload_n hx hb dX11_theRoll_97 rfl (lv_at hl 0 rfl) ?_
          refine rd_calli (va_runV (As := []) (rest := []) ⟨hx, hb, hml, hown, hts⟩ (r_people l G g hg f ab2 be2 sn wn sa ly rdy fd ss np hmo hss_ (hst.h0)) (my_cwV hts ok_X11_people w_213 rfl rfl ⟨Nat.le_of_ble_eq_true rfl, Nat.le_of_ble_eq_true rfl⟩) ⟨bP.blind, va_recv hG.1 hP (ci := 10) (q0 := 315) rfl (wl_at (by decide) hmo), fun U hU hW => ⟨rfl, by rw [hU]; exact hP, kG.warm hW hG⟩⟩ rfl rfl hl.1 rfl (lv_room (Nat.le_of_ble_eq_true rfl)) dX11_theRoll_98 ⟨Nat.le_of_ble_eq_true rfl, Nat.le_of_ble_eq_true rfl⟩) (fun r hr9 => ?_)
          subst hr9
          refine lv_goto (tgt := 116) hx hb dX11_theRoll_101 (by decide) ?_
          refine W_q9 hQ9 ?_
          exact W.iret (v := (1 <<< (nI np &&& 31)) - 1) hx hb hr (fun _ hT9 _ => ⟨_, rfl, ((rlV_0 (R := (fun i c => ss (3 * i + c + 250))) (hB.trans (fo_none (by omega) ho c_94))).symm), hT9⟩) (fun _ h => absurd h List.not_mem_nil) dX11_theRoll_116
      · have k_11 : ¬ nr ≤ i := fun z9 => c_11 ((nI_leI (a := nr) (b := i) (by omega) (by omega)).mpr z9)
        refine lv_aload_n hx hb dX11_theRoll_14 rfl (lv_at hl 0 rfl) ?_
        refine va_get (D := G.1) (ci := 10) (v := .ref (g 316)) (C := RX11) (T := TX11) (N := 25) hx hb hts inlX11 hown hG.1 hP 315 (wl_at (by decide) hmo) rfl 0 (by decide) (hts (.fieldLink RX11 7 "SwornListsModel" "st" "[I") w_112) (fun _ h9 => h9) rfl dX11_theRoll_15 ?_
        refine lv_sipush (v := 250) hx hb dX11_theRoll_18 (by decide) ?_
        refine lv_iconst (v := 3) hx hb dX11_theRoll_21 (by decide) ?_
        refine lv_iload_n hx hb dX11_theRoll_22 rfl (lv_at hl 3 rfl) ?_
        refine lv_imul hx hb dX11_theRoll_23 ?_
        refine my_bei (v := nI (3 * i)) (pk_mul 3 i) ?_
        refine lv_iadd hx hb dX11_theRoll_24 ?_
        refine my_bei (v := nI (3 * i + 250)) ((nI_add 250 (3 * i)).trans (congrArg nI (show 250 + (3 * i) = 3 * i + 250 by omega))) ?_
        refine lv_iconst (v := 2) hx hb dX11_theRoll_25 (by decide) ?_
        refine lv_iadd hx hb dX11_theRoll_26 ?_
        refine my_bei (v := nI (3 * i + 252)) ((nI_add (3 * i + 250) 2).trans (congrArg nI (show (3 * i + 250) + 2 = 3 * i + 252 by omega))) ?_
        refine va_iald hx hb hG.1 hP 316 0 (wl_at (by decide) hss_) rfl (vp_in_nI (by omega) (by decide)) dX11_theRoll_27 ?_
        refine my_bei (v := ss (3 * i + 252)) (congrArg ss (nI_clamp (n := 3 * i + 252) (by omega))) ?_
        refine lv_iload_n hx hb dX11_theRoll_28 rfl (lv_at hl 1 rfl) ?_
        refine lv_icmp_gt (tgt := 36) hx hb dX11_theRoll_29 (by decide) (fun c_29 => ?_) (fun c_29 => ?_)
        · refine lv_iconst (v := 0) hx hb dX11_theRoll_36 (by decide) ?_
          refine lv_istore (lv' := [(4, .int 0), (0, .ref (g 315)), (1, .int q), (2, .int (fo o1)), (3, .int (nI i))]) hx hb dX11_theRoll_37 hl (by decide) rfl (fun ls hl => ?_)
          refine lv_iload hx hb dX11_theRoll_39 (lv_at hl 0 rfl) ?_
          refine lv_if_eq (tgt := 84) hx hb dX11_theRoll_41 (by decide) (fun c_41 => ?_) (fun c_41 => absurd (by decide) c_41)
          refine lv_iload_n hx hb dX11_theRoll_84 rfl (lv_at hl 3 rfl) ?_
          refine lv_istore_n (lv' := [(2, .int (fo o1)), (4, .int 0), (0, .ref (g 315)), (1, .int q), (3, .int (nI i))]) hx hb dX11_theRoll_85 rfl hl (by decide) rfl (fun ls hl => ?_)
          refine lv_iinc (v := nI (i + 1)) (lv' := [(3, .int (nI (i + 1))), (2, .int (fo o1)), (4, .int 0), (0, .ref (g 315)), (1, .int q)]) hx hb dX11_theRoll_86 hl (k := 4) rfl (nI_add i 1) (by decide) rfl (fun ls hl => ?_)
          refine lv_goto (tgt := 4) hx hb dX11_theRoll_89 (by decide) ?_
          exact ih_1 o1 (i + 1) _ (by omega) (ho) (rlB_n (R := (fun i c => ss (3 * i + c + 250))) hB (rlc_k (R := (fun i c => ss (3 * i + c + 250))) _ c_29)) (by omega) (lv_sub hl [3, 4, 1, 0] rfl)
        · refine lv_iconst (v := 1) hx hb dX11_theRoll_32 (by decide) ?_
          refine lv_goto (tgt := 37) hx hb dX11_theRoll_33 (by decide) ?_
          refine lv_istore (lv' := [(4, .int 1), (0, .ref (g 315)), (1, .int q), (2, .int (fo o1)), (3, .int (nI i))]) hx hb dX11_theRoll_37 hl (by decide) rfl (fun ls hl => ?_)
          refine lv_iload hx hb dX11_theRoll_39 (lv_at hl 0 rfl) ?_
          refine lv_if_eq (tgt := 84) hx hb dX11_theRoll_41 (by decide) (fun c_41 => absurd c_41 (by decide)) (fun c_41 => ?_)
          refine lv_iload_n hx hb dX11_theRoll_44 rfl (lv_at hl 3 rfl) ?_
          refine lv_iconst (v := (-1)) hx hb dX11_theRoll_45 (by decide) ?_
          refine lv_icmp_eq (tgt := 80) hx hb dX11_theRoll_46 (by decide) (fun c_46 => ?_) (fun c_46 => ?_)
          · refine lv_iload_n hx hb dX11_theRoll_80 rfl (lv_at hl 4 rfl) ?_
            refine lv_goto (tgt := 85) hx hb dX11_theRoll_81 (by decide) ?_
            refine lv_istore_n (lv' := [(2, .int (nI i)), (4, .int 1), (0, .ref (g 315)), (1, .int q), (3, .int (nI i))]) hx hb dX11_theRoll_85 rfl hl (by decide) rfl (fun ls hl => ?_)
            refine lv_iinc (v := nI (i + 1)) (lv' := [(3, .int (nI (i + 1))), (2, .int (nI i)), (4, .int 1), (0, .ref (g 315)), (1, .int q)]) hx hb dX11_theRoll_86 hl (k := 4) rfl (nI_add i 1) (by decide) rfl (fun ls hl => ?_)
            refine lv_goto (tgt := 4) hx hb dX11_theRoll_89 (by decide) ?_
            exact ih_1 (some i) (i + 1) _ (by omega) (fun z hz => by cases hz; omega) (rlB_y (R := (fun i c => ss (3 * i + c + 250))) (hB.trans (fo_none (by omega) ho c_46)) (rlc_0 (R := (fun i c => ss (3 * i + c + 250))) c_29)) (by omega) (lv_sub hl [3, 4, 1, 0] rfl)
          · obtain ⟨b9, rfl⟩ : ∃ b, o1 = some b := by
              cases o1 with
              | none => exact absurd rfl c_46
              | some z => exact ⟨z, rfl⟩
            have hb9 := ho b9 rfl
            refine lv_aload_n hx hb dX11_theRoll_49 rfl (lv_at hl 1 rfl) ?_
            refine va_get (D := G.1) (ci := 10) (v := .ref (g 316)) (C := RX11) (T := TX11) (N := 25) hx hb hts inlX11 hown hG.1 hP 315 (wl_at (by decide) hmo) rfl 0 (by decide) (hts (.fieldLink RX11 7 "SwornListsModel" "st" "[I") w_112) (fun _ h9 => h9) rfl dX11_theRoll_50 ?_
            refine lv_sipush (v := 250) hx hb dX11_theRoll_53 (by decide) ?_
            refine lv_iconst (v := 3) hx hb dX11_theRoll_56 (by decide) ?_
            refine lv_iload_n hx hb dX11_theRoll_57 rfl (lv_at hl 4 rfl) ?_
            refine lv_imul hx hb dX11_theRoll_58 ?_
            refine my_bei (v := nI (3 * i)) (pk_mul 3 i) ?_
            refine lv_iadd hx hb dX11_theRoll_59 ?_
            refine my_bei (v := nI (3 * i + 250)) ((nI_add 250 (3 * i)).trans (congrArg nI (show 250 + (3 * i) = 3 * i + 250 by omega))) ?_
            refine lv_iconst (v := 1) hx hb dX11_theRoll_60 (by decide) ?_
            refine lv_iadd hx hb dX11_theRoll_61 ?_
            refine my_bei (v := nI (3 * i + 251)) ((nI_add (3 * i + 250) 1).trans (congrArg nI (show (3 * i + 250) + 1 = 3 * i + 251 by omega))) ?_
            refine va_iald hx hb hG.1 hP 316 0 (wl_at (by decide) hss_) rfl (vp_in_nI (by omega) (by decide)) dX11_theRoll_62 ?_
            refine my_bei (v := ss (3 * i + 251)) (congrArg ss (nI_clamp (n := 3 * i + 251) (by omega))) ?_
            refine lv_aload_n hx hb dX11_theRoll_63 rfl (lv_at hl 1 rfl) ?_
            refine va_get (D := G.1) (ci := 10) (v := .ref (g 316)) (C := RX11) (T := TX11) (N := 25) hx hb hts inlX11 hown hG.1 hP 315 (wl_at (by decide) hmo) rfl 0 (by decide) (hts (.fieldLink RX11 7 "SwornListsModel" "st" "[I") w_112) (fun _ h9 => h9) rfl dX11_theRoll_64 ?_
            refine lv_sipush (v := 250) hx hb dX11_theRoll_67 (by decide) ?_
            refine lv_iconst (v := 3) hx hb dX11_theRoll_70 (by decide) ?_
            refine lv_iload_n hx hb dX11_theRoll_71 rfl (lv_at hl 3 rfl) ?_
            refine lv_imul hx hb dX11_theRoll_72 ?_
            refine my_bei (v := nI (3 * b9)) (pk_mul 3 b9) ?_
            refine lv_iadd hx hb dX11_theRoll_73 ?_
            refine my_bei (v := nI (3 * b9 + 250)) ((nI_add 250 (3 * b9)).trans (congrArg nI (show 250 + (3 * b9) = 3 * b9 + 250 by omega))) ?_
            refine lv_iconst (v := 1) hx hb dX11_theRoll_74 (by decide) ?_
            refine lv_iadd hx hb dX11_theRoll_75 ?_
            refine my_bei (v := nI (3 * b9 + 251)) ((nI_add (3 * b9 + 250) 1).trans (congrArg nI (show (3 * b9 + 250) + 1 = 3 * b9 + 251 by omega))) ?_
            refine va_iald hx hb hG.1 hP 316 0 (wl_at (by decide) hss_) rfl (vp_in_nI (by omega) (by decide)) dX11_theRoll_76 ?_
            refine my_bei (v := ss (3 * b9 + 251)) (congrArg ss (nI_clamp (n := 3 * b9 + 251) (by omega))) ?_
            refine lv_icmp_lt (tgt := 84) hx hb dX11_theRoll_77 (by decide) (fun c_77 => ?_) (fun c_77 => ?_)
            · refine lv_iload_n hx hb dX11_theRoll_84 rfl (lv_at hl 3 rfl) ?_
              refine lv_istore_n (lv' := [(2, .int (nI b9)), (4, .int 1), (0, .ref (g 315)), (1, .int q), (3, .int (nI i))]) hx hb dX11_theRoll_85 rfl hl (by decide) rfl (fun ls hl => ?_)
              refine lv_iinc (v := nI (i + 1)) (lv' := [(3, .int (nI (i + 1))), (2, .int (nI b9)), (4, .int 1), (0, .ref (g 315)), (1, .int q)]) hx hb dX11_theRoll_86 hl (k := 4) rfl (nI_add i 1) (by decide) rfl (fun ls hl => ?_)
              refine lv_goto (tgt := 4) hx hb dX11_theRoll_89 (by decide) ?_
              exact ih_1 (some b9) (i + 1) _ (by omega) (ho) (rlB_n (R := (fun i c => ss (3 * i + c + 250))) hB (rlc_2 (R := (fun i c => ss (3 * i + c + 250))) c_77)) (by omega) (lv_sub hl [3, 4, 1, 0] rfl)
            · refine lv_iload_n hx hb dX11_theRoll_80 rfl (lv_at hl 4 rfl) ?_
              refine lv_goto (tgt := 85) hx hb dX11_theRoll_81 (by decide) ?_
              refine lv_istore_n (lv' := [(2, .int (nI i)), (4, .int 1), (0, .ref (g 315)), (1, .int q), (3, .int (nI i))]) hx hb dX11_theRoll_85 rfl hl (by decide) rfl (fun ls hl => ?_)
              refine lv_iinc (v := nI (i + 1)) (lv' := [(3, .int (nI (i + 1))), (2, .int (nI i)), (4, .int 1), (0, .ref (g 315)), (1, .int q)]) hx hb dX11_theRoll_86 hl (k := 4) rfl (nI_add i 1) (by decide) rfl (fun ls hl => ?_)
              refine lv_goto (tgt := 4) hx hb dX11_theRoll_89 (by decide) ?_
              exact ih_1 (some i) (i + 1) _ (by omega) (fun z hz => by cases hz; omega) (rlB_y (R := (fun i c => ss (3 * i + c + 250))) hB (rlc_1 (R := (fun i c => ss (3 * i + c + 250))) c_29 c_77)) (by omega) (lv_sub hl [3, 4, 1, 0] rfl)
  exact key1 (nr + 1) none 0 _ (Nat.zero_le _) (fun z hz => by cases hz) (rfl) (by omega) (lv_sub hl [2, 3, 1, 0] rfl)
set_option maxHeartbeats 4000000 in
set_option maxRecDepth 100000 in
theorem r_inForceE (l : Launch) (G : gW) (g : Nat → Nat) (hg : gOK g) (f : Nat → va_E) (ab2 : Int64) (be2 : Int64) (sn : Int32) (wn : Int32) (sa : Int32) (ly : Int32) (rdy : Int32) (fd : Int32) (ss : Nat → Int32) (np : Nat) (nf : Nat) (nr : Nat) (na : Nat) (nt : Nat) (n : Int32) (q : Int32) (hmo : f 315 = eO 10 [.ref (g 316), .ref (g 317), .ref (g 318), .long ab2, .long be2, .int sn, .ref (g 319), .ref (g 320), .int wn, .ref (g 321), .ref (g 322), .int sa, .int ly, .int rdy, .int fd, .ref (g 323), .ref (g 324), .ref (g 325), .ref (g 326), .ref (g 327), .ref (g 328), .ref (g 329), .ref (g 330), .ref (g 331), .ref (g 332)]) (hss_ : f 316 = eI G 2246 ss) (hst : stOK ss np nf nr na nt) : Met l yX11_inForce (wsT yX11_inForce cX11_inForce 7 (some .int)) ({ frames := 0, cells := 0, slots := 0, locals := 0 }) (bP G g f [.ref (g 315), .int n, .int q]) (rQi (fun z9 => ∃ o9 : Option Nat, z9 = fo o9 ∧ (∀ z, o9 = some z → z < na) ∧ (fcB (fun i c => ss (54 * i + c + 466)) n q na = o9))) 0 0 fr0 := by
  refine Met.ofW (cc := cX11_inForce) (maxL := 7) (ret := (some .int)) (by decide) rfl ?_
  intro p e s m args below meth c s₁ B hml hv
  obtain ⟨rfl, hP, hG⟩ := hv
  have hx := B.exec
  have hb := B.bytes
  have hr := B.returns
  have hts := my_hts (atoms_spec (ws := wsT yX11_inForce cX11_inForce 7 (some .int)) B.pre)
  have hown : s.vm.findClass RX11 = some m.cls := findClass_of_methodNamed B.named
  have hlocks := B.notSynchronized
  have hl := lv_entry ([.ref (g 315), .int n, .int q]) (n := 7) (Nat.le_of_ble_eq_true rfl)
  rw [lg_entry_eq]
  generalize (lg_sl ([.ref (g 315), .int n, .int q]) ++ List.replicate (7 - (lg_sl ([.ref (g 315), .int n, .int q])).length) Slot.unset).toArray = ls at hl ⊢
  have hl : lv_has ls 7 [(0, .ref (g 315)), (1, .int n), (2, .int q)] := hl
  refine W_q8 (fun Q9 hQ9 => ?_)
  have hc0 := hst.c0
  have hc1 := hst.c1
  have hc2 := hst.c2
  have hc3 := hst.c3
  have hc4 := hst.c4
  refine lv_iconst (v := (-1)) hx hb dX11_inForce_0 (by decide) ?_
  refine lv_istore_n (lv' := [(3, .int (-1)), (0, .ref (g 315)), (1, .int n), (2, .int q)]) hx hb dX11_inForce_1 rfl hl (by decide) rfl (fun ls hl => ?_)
  refine lv_iconst (v := 0) hx hb dX11_inForce_2 (by decide) ?_
  refine lv_istore (lv' := [(4, .int 0), (3, .int (-1)), (0, .ref (g 315)), (1, .int n), (2, .int q)]) hx hb dX11_inForce_3 hl (by decide) rfl (fun ls hl => ?_)
  have key1 : ∀ (n9_1 : Nat) (o1 : Option Nat) (i : Nat) (ls : Array Slot), (i ≤ na) → (∀ z, o1 = some z → z < na) → (fcB (fun i c => ss (54 * i + c + 466)) n q i = o1) → na - i < n9_1 → lv_has ls 7 [(0, .ref (g 315)), (1, .int n), (2, .int q), (3, .int (fo o1)), (4, .int (nI i))] → W p l e (headSpec (wsT yX11_inForce cX11_inForce 7 (some .int)) ({ frames := 0, cells := 0, slots := 0, locals := 0 })).room s m ([.ref (g 315), .int n, .int q] : List Value).toArray below meth c s.heap [] 0 0 Q9 (F0 m 5 ls []) := by
    intro n9_1
    induction n9_1 with
    | zero => intro o1 i ls hi ho hB hn9_1; exact absurd hn9_1 (Nat.not_lt_zero _)
    | succ n9_1 ih_1 =>
      intro o1 i ls hi ho hB hn9_1 hl
      refine lv_iload hx hb dX11_inForce_5 (lv_at hl 4 rfl) ?_
      refine lv_aload_n hx hb dX11_inForce_7 rfl (lv_at hl 0 rfl) ?_
      refine va_get (D := G.1) (ci := 10) (v := .ref (g 316)) (C := RX11) (T := TX11) (N := 25) hx hb hts inlX11 hown hG.1 hP 315 (wl_at (by decide) hmo) rfl 0 (by decide) (hts (.fieldLink RX11 7 "SwornListsModel" "st" "[I") w_112) (fun _ h9 => h9) rfl dX11_inForce_8 ?_
      refine lv_iconst (v := 3) hx hb dX11_inForce_11 (by decide) ?_
      refine va_iald hx hb hG.1 hP 316 0 (wl_at (by decide) hss_) rfl (by unfold vp_in; decide) dX11_inForce_12 ?_
      refine my_bei (v := ss 3) (rfl) ?_
      refine my_bei (v := nI na) (hst.h3) ?_
      refine lv_icmp_ge (tgt := 134) hx hb dX11_inForce_13 (by decide) (fun c_13 => ?_) (fun c_13 => ?_)
      · have k_13 : na ≤ i := (nI_leI (a := na) (b := i) (by omega) (by omega)).mp c_13
        have hin : i = na := by omega
        rw [hin] at hB
        refine lv_iload_n hx hb dX11_inForce_134 rfl (lv_at hl 3 rfl) ?_
        refine W_q9 hQ9 ?_
        exact W.iret (v := fo o1) hx hb hr (fun _ hT9 _ => ⟨_, rfl, (⟨o1, rfl, ho, hB⟩), hT9⟩) (fun _ h => absurd h List.not_mem_nil) dX11_inForce_135
      · have k_13 : ¬ na ≤ i := fun z9 => c_13 ((nI_leI (a := na) (b := i) (by omega) (by omega)).mpr z9)
        refine lv_sipush (v := 466) hx hb dX11_inForce_16 (by decide) ?_
        refine lv_bipush (v := 54) hx hb dX11_inForce_19 (by decide) ?_
        refine lv_iload hx hb dX11_inForce_21 (lv_at hl 4 rfl) ?_
        refine lv_imul hx hb dX11_inForce_23 ?_
        refine my_bei (v := nI (54 * i)) (pk_mul 54 i) ?_
        refine lv_iadd hx hb dX11_inForce_24 ?_
        refine my_bei (v := nI (54 * i + 466)) ((nI_add 466 (54 * i)).trans (congrArg nI (show 466 + (54 * i) = 54 * i + 466 by omega))) ?_
        refine lv_istore (lv' := [(5, .int (nI (54 * i + 466))), (0, .ref (g 315)), (1, .int n), (2, .int q), (3, .int (fo o1)), (4, .int (nI i))]) hx hb dX11_inForce_25 hl (by decide) rfl (fun ls hl => ?_)
        refine lv_aload_n hx hb dX11_inForce_27 rfl (lv_at hl 1 rfl) ?_
        refine va_get (D := G.1) (ci := 10) (v := .ref (g 316)) (C := RX11) (T := TX11) (N := 25) hx hb hts inlX11 hown hG.1 hP 315 (wl_at (by decide) hmo) rfl 0 (by decide) (hts (.fieldLink RX11 7 "SwornListsModel" "st" "[I") w_112) (fun _ h9 => h9) rfl dX11_inForce_28 ?_
        refine lv_iload hx hb dX11_inForce_31 (lv_at hl 0 rfl) ?_
        refine va_iald hx hb hG.1 hP 316 0 (wl_at (by decide) hss_) rfl (vp_in_nI (by omega) (by decide)) dX11_inForce_33 ?_
        refine my_bei (v := ss (54 * i + 466)) (congrArg ss (nI_clamp (n := 54 * i + 466) (by omega))) ?_
        refine lv_iload_n hx hb dX11_inForce_34 rfl (lv_at hl 2 rfl) ?_
        refine lv_icmp_ne (tgt := 81) hx hb dX11_inForce_35 (by decide) (fun c_35 => ?_) (fun c_35 => ?_)
        · refine lv_iconst (v := 0) hx hb dX11_inForce_81 (by decide) ?_
          refine lv_istore (lv' := [(6, .int 0), (5, .int (nI (54 * i + 466))), (0, .ref (g 315)), (1, .int n), (2, .int q), (3, .int (fo o1)), (4, .int (nI i))]) hx hb dX11_inForce_82 hl (by decide) rfl (fun ls hl => ?_)
          refine lv_iload hx hb dX11_inForce_84 (lv_at hl 0 rfl) ?_
          refine lv_if_eq (tgt := 126) hx hb dX11_inForce_86 (by decide) (fun c_86 => ?_) (fun c_86 => absurd (by decide) c_86)
          refine lv_iload_n hx hb dX11_inForce_126 rfl (lv_at hl 5 rfl) ?_
          refine lv_istore_n (lv' := [(3, .int (fo o1)), (6, .int 0), (5, .int (nI (54 * i + 466))), (0, .ref (g 315)), (1, .int n), (2, .int q), (4, .int (nI i))]) hx hb dX11_inForce_127 rfl hl (by decide) rfl (fun ls hl => ?_)
          refine lv_iinc (v := nI (i + 1)) (lv' := [(4, .int (nI (i + 1))), (3, .int (fo o1)), (6, .int 0), (5, .int (nI (54 * i + 466))), (0, .ref (g 315)), (1, .int n), (2, .int q)]) hx hb dX11_inForce_128 hl (k := 6) rfl (nI_add i 1) (by decide) rfl (fun ls hl => ?_)
          refine lv_goto (tgt := 5) hx hb dX11_inForce_131 (by decide) ?_
          exact ih_1 o1 (i + 1) _ (by omega) (ho) (fcB_n (A := (fun i c => ss (54 * i + c + 466))) hB (fcc_k (A := (fun i c => ss (54 * i + c + 466))) _ (fch_f (A := (fun i c => ss (54 * i + c + 466))) (Or.inl c_35)))) (by omega) (lv_sub hl [4, 5, 6, 1, 0] rfl)
        · refine lv_aload_n hx hb dX11_inForce_38 rfl (lv_at hl 1 rfl) ?_
          refine va_get (D := G.1) (ci := 10) (v := .ref (g 316)) (C := RX11) (T := TX11) (N := 25) hx hb hts inlX11 hown hG.1 hP 315 (wl_at (by decide) hmo) rfl 0 (by decide) (hts (.fieldLink RX11 7 "SwornListsModel" "st" "[I") w_112) (fun _ h9 => h9) rfl dX11_inForce_39 ?_
          refine lv_iload hx hb dX11_inForce_42 (lv_at hl 0 rfl) ?_
          refine lv_iconst (v := 1) hx hb dX11_inForce_44 (by decide) ?_
          refine lv_iadd hx hb dX11_inForce_45 ?_
          refine my_bei (v := nI (54 * i + 467)) ((nI_add (54 * i + 466) 1).trans (congrArg nI (show (54 * i + 466) + 1 = 54 * i + 467 by omega))) ?_
          refine va_iald hx hb hG.1 hP 316 0 (wl_at (by decide) hss_) rfl (vp_in_nI (by omega) (by decide)) dX11_inForce_46 ?_
          refine my_bei (v := ss (54 * i + 467)) (congrArg ss (nI_clamp (n := 54 * i + 467) (by omega))) ?_
          refine lv_iload_n hx hb dX11_inForce_47 rfl (lv_at hl 3 rfl) ?_
          refine lv_icmp_gt (tgt := 81) hx hb dX11_inForce_48 (by decide) (fun c_48 => ?_) (fun c_48 => ?_)
          · refine lv_iconst (v := 0) hx hb dX11_inForce_81 (by decide) ?_
            refine lv_istore (lv' := [(6, .int 0), (5, .int (nI (54 * i + 466))), (0, .ref (g 315)), (1, .int n), (2, .int q), (3, .int (fo o1)), (4, .int (nI i))]) hx hb dX11_inForce_82 hl (by decide) rfl (fun ls hl => ?_)
            refine lv_iload hx hb dX11_inForce_84 (lv_at hl 0 rfl) ?_
            refine lv_if_eq (tgt := 126) hx hb dX11_inForce_86 (by decide) (fun c_86 => ?_) (fun c_86 => absurd (by decide) c_86)
            refine lv_iload_n hx hb dX11_inForce_126 rfl (lv_at hl 5 rfl) ?_
            refine lv_istore_n (lv' := [(3, .int (fo o1)), (6, .int 0), (5, .int (nI (54 * i + 466))), (0, .ref (g 315)), (1, .int n), (2, .int q), (4, .int (nI i))]) hx hb dX11_inForce_127 rfl hl (by decide) rfl (fun ls hl => ?_)
            refine lv_iinc (v := nI (i + 1)) (lv' := [(4, .int (nI (i + 1))), (3, .int (fo o1)), (6, .int 0), (5, .int (nI (54 * i + 466))), (0, .ref (g 315)), (1, .int n), (2, .int q)]) hx hb dX11_inForce_128 hl (k := 6) rfl (nI_add i 1) (by decide) rfl (fun ls hl => ?_)
            refine lv_goto (tgt := 5) hx hb dX11_inForce_131 (by decide) ?_
            exact ih_1 o1 (i + 1) _ (by omega) (ho) (fcB_n (A := (fun i c => ss (54 * i + c + 466))) hB (fcc_k (A := (fun i c => ss (54 * i + c + 466))) _ (fch_f (A := (fun i c => ss (54 * i + c + 466))) (Or.inr (Or.inl c_48))))) (by omega) (lv_sub hl [4, 5, 6, 1, 0] rfl)
          · refine lv_aload_n hx hb dX11_inForce_51 rfl (lv_at hl 1 rfl) ?_
            refine va_get (D := G.1) (ci := 10) (v := .ref (g 316)) (C := RX11) (T := TX11) (N := 25) hx hb hts inlX11 hown hG.1 hP 315 (wl_at (by decide) hmo) rfl 0 (by decide) (hts (.fieldLink RX11 7 "SwornListsModel" "st" "[I") w_112) (fun _ h9 => h9) rfl dX11_inForce_52 ?_
            refine lv_iload hx hb dX11_inForce_55 (lv_at hl 0 rfl) ?_
            refine lv_iconst (v := 2) hx hb dX11_inForce_57 (by decide) ?_
            refine lv_iadd hx hb dX11_inForce_58 ?_
            refine my_bei (v := nI (54 * i + 468)) ((nI_add (54 * i + 466) 2).trans (congrArg nI (show (54 * i + 466) + 2 = 54 * i + 468 by omega))) ?_
            refine va_iald hx hb hG.1 hP 316 0 (wl_at (by decide) hss_) rfl (vp_in_nI (by omega) (by decide)) dX11_inForce_59 ?_
            refine my_bei (v := ss (54 * i + 468)) (congrArg ss (nI_clamp (n := 54 * i + 468) (by omega))) ?_
            refine lv_iconst (v := (-1)) hx hb dX11_inForce_60 (by decide) ?_
            refine lv_icmp_eq (tgt := 77) hx hb dX11_inForce_61 (by decide) (fun c_61 => ?_) (fun c_61 => ?_)
            · refine lv_iconst (v := 1) hx hb dX11_inForce_77 (by decide) ?_
              refine lv_goto (tgt := 82) hx hb dX11_inForce_78 (by decide) ?_
              refine lv_istore (lv' := [(6, .int 1), (5, .int (nI (54 * i + 466))), (0, .ref (g 315)), (1, .int n), (2, .int q), (3, .int (fo o1)), (4, .int (nI i))]) hx hb dX11_inForce_82 hl (by decide) rfl (fun ls hl => ?_)
              refine lv_iload hx hb dX11_inForce_84 (lv_at hl 0 rfl) ?_
              refine lv_if_eq (tgt := 126) hx hb dX11_inForce_86 (by decide) (fun c_86 => absurd c_86 (by decide)) (fun c_86 => ?_)
              refine lv_iload_n hx hb dX11_inForce_89 rfl (lv_at hl 5 rfl) ?_
              refine lv_iconst (v := (-1)) hx hb dX11_inForce_90 (by decide) ?_
              refine lv_icmp_eq (tgt := 121) hx hb dX11_inForce_91 (by decide) (fun c_91 => ?_) (fun c_91 => ?_)
              · refine lv_iload hx hb dX11_inForce_121 (lv_at hl 6 rfl) ?_
                refine lv_goto (tgt := 127) hx hb dX11_inForce_123 (by decide) ?_
                refine lv_istore_n (lv' := [(3, .int (nI i)), (6, .int 1), (5, .int (nI (54 * i + 466))), (0, .ref (g 315)), (1, .int n), (2, .int q), (4, .int (nI i))]) hx hb dX11_inForce_127 rfl hl (by decide) rfl (fun ls hl => ?_)
                refine lv_iinc (v := nI (i + 1)) (lv' := [(4, .int (nI (i + 1))), (3, .int (nI i)), (6, .int 1), (5, .int (nI (54 * i + 466))), (0, .ref (g 315)), (1, .int n), (2, .int q)]) hx hb dX11_inForce_128 hl (k := 6) rfl (nI_add i 1) (by decide) rfl (fun ls hl => ?_)
                refine lv_goto (tgt := 5) hx hb dX11_inForce_131 (by decide) ?_
                exact ih_1 (some i) (i + 1) _ (by omega) (fun z hz => by cases hz; omega) (fcB_y (A := (fun i c => ss (54 * i + c + 466))) (hB.trans (fo_none (by omega) ho c_91)) (fch_t (A := (fun i c => ss (54 * i + c + 466))) c_35 c_48 (Or.inl c_61))) (by omega) (lv_sub hl [4, 5, 6, 1, 0] rfl)
              · obtain ⟨b9, rfl⟩ : ∃ b, o1 = some b := by
                  cases o1 with
                  | none => exact absurd rfl c_91
                  | some z => exact ⟨z, rfl⟩
                have hb9 := ho b9 rfl
                refine lv_aload_n hx hb dX11_inForce_94 rfl (lv_at hl 2 rfl) ?_
                refine va_get (D := G.1) (ci := 10) (v := .ref (g 316)) (C := RX11) (T := TX11) (N := 25) hx hb hts inlX11 hown hG.1 hP 315 (wl_at (by decide) hmo) rfl 0 (by decide) (hts (.fieldLink RX11 7 "SwornListsModel" "st" "[I") w_112) (fun _ h9 => h9) rfl dX11_inForce_95 ?_
                refine lv_iload hx hb dX11_inForce_98 (lv_at hl 1 rfl) ?_
                refine lv_iconst (v := 1) hx hb dX11_inForce_100 (by decide) ?_
                refine lv_iadd hx hb dX11_inForce_101 ?_
                refine my_bei (v := nI (54 * i + 467)) ((nI_add (54 * i + 466) 1).trans (congrArg nI (show (54 * i + 466) + 1 = 54 * i + 467 by omega))) ?_
                refine va_iald hx hb hG.1 hP 316 0 (wl_at (by decide) hss_) rfl (vp_in_nI (by omega) (by decide)) dX11_inForce_102 ?_
                refine my_bei (v := ss (54 * i + 467)) (congrArg ss (nI_clamp (n := 54 * i + 467) (by omega))) ?_
                refine lv_aload_n hx hb dX11_inForce_103 rfl (lv_at hl 2 rfl) ?_
                refine va_get (D := G.1) (ci := 10) (v := .ref (g 316)) (C := RX11) (T := TX11) (N := 25) hx hb hts inlX11 hown hG.1 hP 315 (wl_at (by decide) hmo) rfl 0 (by decide) (hts (.fieldLink RX11 7 "SwornListsModel" "st" "[I") w_112) (fun _ h9 => h9) rfl dX11_inForce_104 ?_
                refine lv_sipush (v := 466) hx hb dX11_inForce_107 (by decide) ?_
                refine lv_bipush (v := 54) hx hb dX11_inForce_110 (by decide) ?_
                refine lv_iload_n hx hb dX11_inForce_112 rfl (lv_at hl 5 rfl) ?_
                refine lv_imul hx hb dX11_inForce_113 ?_
                refine my_bei (v := nI (54 * b9)) (pk_mul 54 b9) ?_
                refine lv_iadd hx hb dX11_inForce_114 ?_
                refine my_bei (v := nI (54 * b9 + 466)) ((nI_add 466 (54 * b9)).trans (congrArg nI (show 466 + (54 * b9) = 54 * b9 + 466 by omega))) ?_
                refine lv_iconst (v := 1) hx hb dX11_inForce_115 (by decide) ?_
                refine lv_iadd hx hb dX11_inForce_116 ?_
                refine my_bei (v := nI (54 * b9 + 467)) ((nI_add (54 * b9 + 466) 1).trans (congrArg nI (show (54 * b9 + 466) + 1 = 54 * b9 + 467 by omega))) ?_
                refine va_iald hx hb hG.1 hP 316 0 (wl_at (by decide) hss_) rfl (vp_in_nI (by omega) (by decide)) dX11_inForce_117 ?_
                refine my_bei (v := ss (54 * b9 + 467)) (congrArg ss (nI_clamp (n := 54 * b9 + 467) (by omega))) ?_
                refine lv_icmp_lt (tgt := 126) hx hb dX11_inForce_118 (by decide) (fun c_118 => ?_) (fun c_118 => ?_)
                · refine lv_iload_n hx hb dX11_inForce_126 rfl (lv_at hl 5 rfl) ?_
                  refine lv_istore_n (lv' := [(3, .int (nI b9)), (6, .int 1), (5, .int (nI (54 * i + 466))), (0, .ref (g 315)), (1, .int n), (2, .int q), (4, .int (nI i))]) hx hb dX11_inForce_127 rfl hl (by decide) rfl (fun ls hl => ?_)
                  refine lv_iinc (v := nI (i + 1)) (lv' := [(4, .int (nI (i + 1))), (3, .int (nI b9)), (6, .int 1), (5, .int (nI (54 * i + 466))), (0, .ref (g 315)), (1, .int n), (2, .int q)]) hx hb dX11_inForce_128 hl (k := 6) rfl (nI_add i 1) (by decide) rfl (fun ls hl => ?_)
                  refine lv_goto (tgt := 5) hx hb dX11_inForce_131 (by decide) ?_
                  exact ih_1 (some b9) (i + 1) _ (by omega) (ho) (fcB_n (A := (fun i c => ss (54 * i + c + 466))) hB (fcc_2 (A := (fun i c => ss (54 * i + c + 466))) c_118)) (by omega) (lv_sub hl [4, 5, 6, 1, 0] rfl)
                · refine lv_iload hx hb dX11_inForce_121 (lv_at hl 6 rfl) ?_
                  refine lv_goto (tgt := 127) hx hb dX11_inForce_123 (by decide) ?_
                  refine lv_istore_n (lv' := [(3, .int (nI i)), (6, .int 1), (5, .int (nI (54 * i + 466))), (0, .ref (g 315)), (1, .int n), (2, .int q), (4, .int (nI i))]) hx hb dX11_inForce_127 rfl hl (by decide) rfl (fun ls hl => ?_)
                  refine lv_iinc (v := nI (i + 1)) (lv' := [(4, .int (nI (i + 1))), (3, .int (nI i)), (6, .int 1), (5, .int (nI (54 * i + 466))), (0, .ref (g 315)), (1, .int n), (2, .int q)]) hx hb dX11_inForce_128 hl (k := 6) rfl (nI_add i 1) (by decide) rfl (fun ls hl => ?_)
                  refine lv_goto (tgt := 5) hx hb dX11_inForce_131 (by decide) ?_
                  exact ih_1 (some i) (i + 1) _ (by omega) (fun z hz => by cases hz; omega) (fcB_y (A := (fun i c => ss (54 * i + c + 466))) hB (fcc_1 (A := (fun i c => ss (54 * i + c + 466))) (fch_t (A := (fun i c => ss (54 * i + c + 466))) c_35 c_48 (Or.inl c_61)) c_118)) (by omega) (lv_sub hl [4, 5, 6, 1, 0] rfl)
            · refine lv_aload_n hx hb dX11_inForce_64 rfl (lv_at hl 1 rfl) ?_
              refine va_get (D := G.1) (ci := 10) (v := .ref (g 316)) (C := RX11) (T := TX11) (N := 25) hx hb hts inlX11 hown hG.1 hP 315 (wl_at (by decide) hmo) rfl 0 (by decide) (hts (.fieldLink RX11 7 "SwornListsModel" "st" "[I") w_112) (fun _ h9 => h9) rfl dX11_inForce_65 ?_
              refine lv_iload hx hb dX11_inForce_68 (lv_at hl 0 rfl) ?_
              refine lv_iconst (v := 2) hx hb dX11_inForce_70 (by decide) ?_
              refine lv_iadd hx hb dX11_inForce_71 ?_
              refine my_bei (v := nI (54 * i + 468)) ((nI_add (54 * i + 466) 2).trans (congrArg nI (show (54 * i + 466) + 2 = 54 * i + 468 by omega))) ?_
              refine va_iald hx hb hG.1 hP 316 0 (wl_at (by decide) hss_) rfl (vp_in_nI (by omega) (by decide)) dX11_inForce_72 ?_
              refine my_bei (v := ss (54 * i + 468)) (congrArg ss (nI_clamp (n := 54 * i + 468) (by omega))) ?_
              refine lv_iload_n hx hb dX11_inForce_73 rfl (lv_at hl 3 rfl) ?_
              refine lv_icmp_le (tgt := 81) hx hb dX11_inForce_74 (by decide) (fun c_74 => ?_) (fun c_74 => ?_)
              · refine lv_iconst (v := 0) hx hb dX11_inForce_81 (by decide) ?_
                refine lv_istore (lv' := [(6, .int 0), (5, .int (nI (54 * i + 466))), (0, .ref (g 315)), (1, .int n), (2, .int q), (3, .int (fo o1)), (4, .int (nI i))]) hx hb dX11_inForce_82 hl (by decide) rfl (fun ls hl => ?_)
                refine lv_iload hx hb dX11_inForce_84 (lv_at hl 0 rfl) ?_
                refine lv_if_eq (tgt := 126) hx hb dX11_inForce_86 (by decide) (fun c_86 => ?_) (fun c_86 => absurd (by decide) c_86)
                refine lv_iload_n hx hb dX11_inForce_126 rfl (lv_at hl 5 rfl) ?_
                refine lv_istore_n (lv' := [(3, .int (fo o1)), (6, .int 0), (5, .int (nI (54 * i + 466))), (0, .ref (g 315)), (1, .int n), (2, .int q), (4, .int (nI i))]) hx hb dX11_inForce_127 rfl hl (by decide) rfl (fun ls hl => ?_)
                refine lv_iinc (v := nI (i + 1)) (lv' := [(4, .int (nI (i + 1))), (3, .int (fo o1)), (6, .int 0), (5, .int (nI (54 * i + 466))), (0, .ref (g 315)), (1, .int n), (2, .int q)]) hx hb dX11_inForce_128 hl (k := 6) rfl (nI_add i 1) (by decide) rfl (fun ls hl => ?_)
                refine lv_goto (tgt := 5) hx hb dX11_inForce_131 (by decide) ?_
                exact ih_1 o1 (i + 1) _ (by omega) (ho) (fcB_n (A := (fun i c => ss (54 * i + c + 466))) hB (fcc_k (A := (fun i c => ss (54 * i + c + 466))) _ (fch_f (A := (fun i c => ss (54 * i + c + 466))) (Or.inr (Or.inr ⟨c_61, c_74⟩))))) (by omega) (lv_sub hl [4, 5, 6, 1, 0] rfl)
              · refine lv_iconst (v := 1) hx hb dX11_inForce_77 (by decide) ?_
                refine lv_goto (tgt := 82) hx hb dX11_inForce_78 (by decide) ?_
                refine lv_istore (lv' := [(6, .int 1), (5, .int (nI (54 * i + 466))), (0, .ref (g 315)), (1, .int n), (2, .int q), (3, .int (fo o1)), (4, .int (nI i))]) hx hb dX11_inForce_82 hl (by decide) rfl (fun ls hl => ?_)
                refine lv_iload hx hb dX11_inForce_84 (lv_at hl 0 rfl) ?_
                refine lv_if_eq (tgt := 126) hx hb dX11_inForce_86 (by decide) (fun c_86 => absurd c_86 (by decide)) (fun c_86 => ?_)
                refine lv_iload_n hx hb dX11_inForce_89 rfl (lv_at hl 5 rfl) ?_
                refine lv_iconst (v := (-1)) hx hb dX11_inForce_90 (by decide) ?_
                refine lv_icmp_eq (tgt := 121) hx hb dX11_inForce_91 (by decide) (fun c_91 => ?_) (fun c_91 => ?_)
                · refine lv_iload hx hb dX11_inForce_121 (lv_at hl 6 rfl) ?_
                  refine lv_goto (tgt := 127) hx hb dX11_inForce_123 (by decide) ?_
                  refine lv_istore_n (lv' := [(3, .int (nI i)), (6, .int 1), (5, .int (nI (54 * i + 466))), (0, .ref (g 315)), (1, .int n), (2, .int q), (4, .int (nI i))]) hx hb dX11_inForce_127 rfl hl (by decide) rfl (fun ls hl => ?_)
                  refine lv_iinc (v := nI (i + 1)) (lv' := [(4, .int (nI (i + 1))), (3, .int (nI i)), (6, .int 1), (5, .int (nI (54 * i + 466))), (0, .ref (g 315)), (1, .int n), (2, .int q)]) hx hb dX11_inForce_128 hl (k := 6) rfl (nI_add i 1) (by decide) rfl (fun ls hl => ?_)
                  refine lv_goto (tgt := 5) hx hb dX11_inForce_131 (by decide) ?_
                  exact ih_1 (some i) (i + 1) _ (by omega) (fun z hz => by cases hz; omega) (fcB_y (A := (fun i c => ss (54 * i + c + 466))) (hB.trans (fo_none (by omega) ho c_91)) (fch_t (A := (fun i c => ss (54 * i + c + 466))) c_35 c_48 (Or.inr c_74))) (by omega) (lv_sub hl [4, 5, 6, 1, 0] rfl)
                · obtain ⟨b9, rfl⟩ : ∃ b, o1 = some b := by
                    cases o1 with
                    | none => exact absurd rfl c_91
                    | some z => exact ⟨z, rfl⟩
                  have hb9 := ho b9 rfl
                  refine lv_aload_n hx hb dX11_inForce_94 rfl (lv_at hl 2 rfl) ?_
                  refine va_get (D := G.1) (ci := 10) (v := .ref (g 316)) (C := RX11) (T := TX11) (N := 25) hx hb hts inlX11 hown hG.1 hP 315 (wl_at (by decide) hmo) rfl 0 (by decide) (hts (.fieldLink RX11 7 "SwornListsModel" "st" "[I") w_112) (fun _ h9 => h9) rfl dX11_inForce_95 ?_
                  refine lv_iload hx hb dX11_inForce_98 (lv_at hl 1 rfl) ?_
                  refine lv_iconst (v := 1) hx hb dX11_inForce_100 (by decide) ?_
                  refine lv_iadd hx hb dX11_inForce_101 ?_
                  refine my_bei (v := nI (54 * i + 467)) ((nI_add (54 * i + 466) 1).trans (congrArg nI (show (54 * i + 466) + 1 = 54 * i + 467 by omega))) ?_
                  refine va_iald hx hb hG.1 hP 316 0 (wl_at (by decide) hss_) rfl (vp_in_nI (by omega) (by decide)) dX11_inForce_102 ?_
                  refine my_bei (v := ss (54 * i + 467)) (congrArg ss (nI_clamp (n := 54 * i + 467) (by omega))) ?_
                  refine lv_aload_n hx hb dX11_inForce_103 rfl (lv_at hl 2 rfl) ?_
                  refine va_get (D := G.1) (ci := 10) (v := .ref (g 316)) (C := RX11) (T := TX11) (N := 25) hx hb hts inlX11 hown hG.1 hP 315 (wl_at (by decide) hmo) rfl 0 (by decide) (hts (.fieldLink RX11 7 "SwornListsModel" "st" "[I") w_112) (fun _ h9 => h9) rfl dX11_inForce_104 ?_
                  refine lv_sipush (v := 466) hx hb dX11_inForce_107 (by decide) ?_
                  refine lv_bipush (v := 54) hx hb dX11_inForce_110 (by decide) ?_
                  refine lv_iload_n hx hb dX11_inForce_112 rfl (lv_at hl 5 rfl) ?_
                  refine lv_imul hx hb dX11_inForce_113 ?_
                  refine my_bei (v := nI (54 * b9)) (pk_mul 54 b9) ?_
                  refine lv_iadd hx hb dX11_inForce_114 ?_
                  refine my_bei (v := nI (54 * b9 + 466)) ((nI_add 466 (54 * b9)).trans (congrArg nI (show 466 + (54 * b9) = 54 * b9 + 466 by omega))) ?_
                  refine lv_iconst (v := 1) hx hb dX11_inForce_115 (by decide) ?_
                  refine lv_iadd hx hb dX11_inForce_116 ?_
                  refine my_bei (v := nI (54 * b9 + 467)) ((nI_add (54 * b9 + 466) 1).trans (congrArg nI (show (54 * b9 + 466) + 1 = 54 * b9 + 467 by omega))) ?_
                  refine va_iald hx hb hG.1 hP 316 0 (wl_at (by decide) hss_) rfl (vp_in_nI (by omega) (by decide)) dX11_inForce_117 ?_
                  refine my_bei (v := ss (54 * b9 + 467)) (congrArg ss (nI_clamp (n := 54 * b9 + 467) (by omega))) ?_
                  refine lv_icmp_lt (tgt := 126) hx hb dX11_inForce_118 (by decide) (fun c_118 => ?_) (fun c_118 => ?_)
                  · refine lv_iload_n hx hb dX11_inForce_126 rfl (lv_at hl 5 rfl) ?_
                    refine lv_istore_n (lv' := [(3, .int (nI b9)), (6, .int 1), (5, .int (nI (54 * i + 466))), (0, .ref (g 315)), (1, .int n), (2, .int q), (4, .int (nI i))]) hx hb dX11_inForce_127 rfl hl (by decide) rfl (fun ls hl => ?_)
                    refine lv_iinc (v := nI (i + 1)) (lv' := [(4, .int (nI (i + 1))), (3, .int (nI b9)), (6, .int 1), (5, .int (nI (54 * i + 466))), (0, .ref (g 315)), (1, .int n), (2, .int q)]) hx hb dX11_inForce_128 hl (k := 6) rfl (nI_add i 1) (by decide) rfl (fun ls hl => ?_)
                    refine lv_goto (tgt := 5) hx hb dX11_inForce_131 (by decide) ?_
                    exact ih_1 (some b9) (i + 1) _ (by omega) (ho) (fcB_n (A := (fun i c => ss (54 * i + c + 466))) hB (fcc_2 (A := (fun i c => ss (54 * i + c + 466))) c_118)) (by omega) (lv_sub hl [4, 5, 6, 1, 0] rfl)
                  · refine lv_iload hx hb dX11_inForce_121 (lv_at hl 6 rfl) ?_
                    refine lv_goto (tgt := 127) hx hb dX11_inForce_123 (by decide) ?_
                    refine lv_istore_n (lv' := [(3, .int (nI i)), (6, .int 1), (5, .int (nI (54 * i + 466))), (0, .ref (g 315)), (1, .int n), (2, .int q), (4, .int (nI i))]) hx hb dX11_inForce_127 rfl hl (by decide) rfl (fun ls hl => ?_)
                    refine lv_iinc (v := nI (i + 1)) (lv' := [(4, .int (nI (i + 1))), (3, .int (nI i)), (6, .int 1), (5, .int (nI (54 * i + 466))), (0, .ref (g 315)), (1, .int n), (2, .int q)]) hx hb dX11_inForce_128 hl (k := 6) rfl (nI_add i 1) (by decide) rfl (fun ls hl => ?_)
                    refine lv_goto (tgt := 5) hx hb dX11_inForce_131 (by decide) ?_
                    exact ih_1 (some i) (i + 1) _ (by omega) (fun z hz => by cases hz; omega) (fcB_y (A := (fun i c => ss (54 * i + c + 466))) hB (fcc_1 (A := (fun i c => ss (54 * i + c + 466))) (fch_t (A := (fun i c => ss (54 * i + c + 466))) c_35 c_48 (Or.inr c_74)) c_118)) (by omega) (lv_sub hl [4, 5, 6, 1, 0] rfl)
  exact key1 (na + 1) none 0 _ (Nat.zero_le _) (fun z hz => by cases hz) (rfl) (by omega) (lv_sub hl [2, 3, 4, 1, 0] rfl)

