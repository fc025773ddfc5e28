set_option maxHeartbeats 4000000 in
set_option maxRecDepth 100000 in
theorem r_inForce (l : Launch) (G : gW) (g : Nat → Nat) (hg : gOK g) (f : Nat → va_E) (ab2 : Int64) (be2 : Int64) (sn : Int32) (wn : Int32) (sa : Int32) (ly : Int32) (rdy : Int32) (fd : Int32) (ss : Nat → Int32) (np : Nat) (nf : Nat) (nr : Nat) (na : Nat) (nt : Nat) (n : Int32) (q : Int32) (hmo : f 315 = eO 10 [.ref (g 316), .ref (g 317), .ref (g 318), .long ab2, .long be2, .int sn, .ref (g 319), .ref (g 320), .int wn, .ref (g 321), .ref (g 322), .int sa, .int ly, .int rdy, .int fd, .ref (g 323), .ref (g 324), .ref (g 325), .ref (g 326), .ref (g 327), .ref (g 328), .ref (g 329), .ref (g 330), .ref (g 331), .ref (g 332)]) (hss_ : f 316 = eI G 2246 ss) (hst : stOK ss np nf nr na nt) : Met l yX11_inForce (wsT yX11_inForce cX11_inForce 7 (some .int)) ({ frames := 0, cells := 0, slots := 0, locals := 0 }) (bP G g f [.ref (g 315), .int n, .int q]) (rQi (fun z9 => ∃ o9 : Option Nat, z9 = fo o9 ∧ (∀ z, o9 = some z → z < na))) 0 0 fr0 := by
  refine Met.ofW (cc := cX11_inForce) (maxL := 7) (ret := (some .int)) (by decide) rfl ?_
  intro p e s m args below meth c s₁ B hml hv
  obtain ⟨rfl, hP, hG⟩ := hv
  have hx := B.exec
  have hb := B.bytes
  have hr := B.returns
  have hts := my_hts (atoms_spec (ws := wsT yX11_inForce cX11_inForce 7 (some .int)) B.pre)
  have hown : s.vm.findClass RX11 = some m.cls := findClass_of_methodNamed B.named
  have hlocks := B.notSynchronized
  have hl := lv_entry ([.ref (g 315), .int n, .int q]) (n := 7) (Nat.le_of_ble_eq_true rfl)
  rw [lg_entry_eq]
  generalize (lg_sl ([.ref (g 315), .int n, .int q]) ++ List.replicate (7 - (lg_sl ([.ref (g 315), .int n, .int q])).length) Slot.unset).toArray = ls at hl ⊢
  have hl : lv_has ls 7 [(0, .ref (g 315)), (1, .int n), (2, .int q)] := hl
  have hc0 := hst.c0
  have hc1 := hst.c1
  have hc2 := hst.c2
  have hc3 := hst.c3
  have hc4 := hst.c4
  refine lv_iconst (v := (-1)) hx hb dX11_inForce_0 (by decide) ?_
  refine lv_istore_n (lv' := [(3, .int (-1)), (0, .ref (g 315)), (1, .int n), (2, .int q)]) hx hb dX11_inForce_1 rfl hl (by decide) rfl (fun ls hl => ?_)
  refine lv_iconst (v := 0) hx hb dX11_inForce_2 (by decide) ?_
  refine lv_istore (lv' := [(4, .int 0), (3, .int (-1)), (0, .ref (g 315)), (1, .int n), (2, .int q)]) hx hb dX11_inForce_3 hl (by decide) rfl (fun ls hl => ?_)
  have key1 : ∀ (n9_1 : Nat) (o1 : Option Nat) (i : Nat) (ls : Array Slot), (i ≤ na) → (∀ z, o1 = some z → z < na) → na - i < n9_1 → lv_has ls 7 [(0, .ref (g 315)), (1, .int n), (2, .int q), (3, .int (fo o1)), (4, .int (nI i))] → W p l e (headSpec (wsT yX11_inForce cX11_inForce 7 (some .int)) ({ frames := 0, cells := 0, slots := 0, locals := 0 })).room s m ([.ref (g 315), .int n, .int q] : List Value).toArray below meth c s.heap [] 0 0 (MQ below (rQi (fun z9 => ∃ o9 : Option Nat, z9 = fo o9 ∧ (∀ z, o9 = some z → z < na))) ([.ref (g 315), .int n, .int q] : List Value).toArray s 0 0 fr0) (F0 m 5 ls []) := by
    intro n9_1
    induction n9_1 with
    | zero => intro o1 i ls hi ho hn9_1; exact absurd hn9_1 (Nat.not_lt_zero _)
    | succ n9_1 ih_1 =>
      intro o1 i ls hi ho hn9_1 hl
      refine lv_iload hx hb dX11_inForce_5 (lv_at hl 4 rfl) ?_
      refine lv_aload_n hx hb dX11_inForce_7 rfl (lv_at hl 0 rfl) ?_
      refine va_get (D := G.1) (ci := 10) (v := .ref (g 316)) (C := RX11) (T := TX11) (N := 25) hx hb hts inlX11 hown hG.1 hP 315 (wl_at (by decide) hmo) rfl 0 (by decide) (hts (.fieldLink RX11 7 "SwornListsModel" "st" "[I") w_112) (fun _ h9 => h9) rfl dX11_inForce_8 ?_
      refine lv_iconst (v := 3) hx hb dX11_inForce_11 (by decide) ?_
      refine va_iald hx hb hG.1 hP 316 0 (wl_at (by decide) hss_) rfl (by unfold vp_in; decide) dX11_inForce_12 ?_
      refine my_bei (v := ss 3) (rfl) ?_
      refine my_bei (v := nI na) (hst.h3) ?_
      refine lv_icmp_ge (tgt := 134) hx hb dX11_inForce_13 (by decide) (fun c_13 => ?_) (fun c_13 => ?_)
      · have k_13 : na ≤ i := (nI_leI (a := na) (b := i) (by omega) (by omega)).mp c_13
        refine lv_iload_n hx hb dX11_inForce_134 rfl (lv_at hl 3 rfl) ?_
        exact W.iret (v := fo o1) hx hb hr (fun t ht hW => ⟨_, rfl, (⟨o1, rfl, ho⟩), ht⟩) (fun _ h => absurd h List.not_mem_nil) dX11_inForce_135
      · have k_13 : ¬ na ≤ i := fun z9 => c_13 ((nI_leI (a := na) (b := i) (by omega) (by omega)).mpr z9)
        refine lv_sipush (v := 466) hx hb dX11_inForce_16 (by decide) ?_
        refine lv_bipush (v := 54) hx hb dX11_inForce_19 (by decide) ?_
        refine lv_iload hx hb dX11_inForce_21 (lv_at hl 4 rfl) ?_
        refine lv_imul hx hb dX11_inForce_23 ?_
        refine my_bei (v := nI (54 * i)) (pk_mul 54 i) ?_
        refine lv_iadd hx hb dX11_inForce_24 ?_
        refine my_bei (v := nI (54 * i + 466)) ((nI_add 466 (54 * i)).trans (congrArg nI (show 466 + (54 * i) = 54 * i + 466 by omega))) ?_
        refine lv_istore (lv' := [(5, .int (nI (54 * i + 466))), (0, .ref (g 315)), (1, .int n), (2, .int q), (3, .int (fo o1)), (4, .int (nI i))]) hx hb dX11_inForce_25 hl (by decide) rfl (fun ls hl => ?_)
        refine lv_aload_n hx hb dX11_inForce_27 rfl (lv_at hl 1 rfl) ?_
        refine va_get (D := G.1) (ci := 10) (v := .ref (g 316)) (C := RX11) (T := TX11) (N := 25) hx hb hts inlX11 hown hG.1 hP 315 (wl_at (by decide) hmo) rfl 0 (by decide) (hts (.fieldLink RX11 7 "SwornListsModel" "st" "[I") w_112) (fun _ h9 => h9) rfl dX11_inForce_28 ?_
        refine lv_iload hx hb dX11_inForce_31 (lv_at hl 0 rfl) ?_
        refine va_iald hx hb hG.1 hP 316 0 (wl_at (by decide) hss_) rfl (vp_in_nI (by omega) (by decide)) dX11_inForce_33 ?_
        refine my_bei (v := ss (54 * i + 466)) (congrArg ss (nI_clamp (n := 54 * i + 466) (by omega))) ?_
        refine lv_iload_n hx hb dX11_inForce_34 rfl (lv_at hl 2 rfl) ?_
        refine lv_icmp_ne (tgt := 81) hx hb dX11_inForce_35 (by decide) (fun c_35 => ?_) (fun c_35 => ?_)
        · refine lv_iconst (v := 0) hx hb dX11_inForce_81 (by decide) ?_
          refine lv_istore (lv' := [(6, .int 0), (5, .int (nI (54 * i + 466))), (0, .ref (g 315)), (1, .int n), (2, .int q), (3, .int (fo o1)), (4, .int (nI i))]) hx hb dX11_inForce_82 hl (by decide) rfl (fun ls hl => ?_)
          refine lv_iload hx hb dX11_inForce_84 (lv_at hl 0 rfl) ?_
          refine lv_if_eq (tgt := 126) hx hb dX11_inForce_86 (by decide) (fun c_86 => ?_) (fun c_86 => absurd (by decide) c_86)
          refine lv_iload_n hx hb dX11_inForce_126 rfl (lv_at hl 5 rfl) ?_
          refine lv_istore_n (lv' := [(3, .int (fo o1)), (6, .int 0), (5, .int (nI (54 * i + 466))), (0, .ref (g 315)), (1, .int n), (2, .int q), (4, .int (nI i))]) hx hb dX11_inForce_127 rfl hl (by decide) rfl (fun ls hl => ?_)
          refine lv_iinc (v := nI (i + 1)) (lv' := [(4, .int (nI (i + 1))), (3, .int (fo o1)), (6, .int 0), (5, .int (nI (54 * i + 466))), (0, .ref (g 315)), (1, .int n), (2, .int q)]) hx hb dX11_inForce_128 hl (k := 6) rfl (nI_add i 1) (by decide) rfl (fun ls hl => ?_)
          refine lv_goto (tgt := 5) hx hb dX11_inForce_131 (by decide) ?_
          exact ih_1 o1 (i + 1) _ (by omega) (ho) (by omega) (lv_sub hl [4, 5, 6, 1, 0] rfl)
        · refine lv_aload_n hx hb dX11_inForce_38 rfl (lv_at hl 1 rfl) ?_
          refine va_get (D := G.1) (ci := 10) (v := .ref (g 316)) (C := RX11) (T := TX11) (N := 25) hx hb hts inlX11 hown hG.1 hP 315 (wl_at (by decide) hmo) rfl 0 (by decide) (hts (.fieldLink RX11 7 "SwornListsModel" "st" "[I") w_112) (fun _ h9 => h9) rfl dX11_inForce_39 ?_
          refine lv_iload hx hb dX11_inForce_42 (lv_at hl 0 rfl) ?_
          refine lv_iconst (v := 1) hx hb dX11_inForce_44 (by decide) ?_
          refine lv_iadd hx hb dX11_inForce_45 ?_
          refine my_bei (v := nI (54 * i + 467)) ((nI_add (54 * i + 466) 1).trans (congrArg nI (show (54 * i + 466) + 1 = 54 * i + 467 by omega))) ?_
          refine va_iald hx hb hG.1 hP 316 0 (wl_at (by decide) hss_) rfl (vp_in_nI (by omega) (by decide)) dX11_inForce_46 ?_
          refine my_bei (v := ss (54 * i + 467)) (congrArg ss (nI_clamp (n := 54 * i + 467) (by omega))) ?_
          refine lv_iload_n hx hb dX11_inForce_47 rfl (lv_at hl 3 rfl) ?_
          refine lv_icmp_gt (tgt := 81) hx hb dX11_inForce_48 (by decide) (fun c_48 => ?_) (fun c_48 => ?_)
          · refine lv_iconst (v := 0) hx hb dX11_inForce_81 (by decide) ?_
            refine lv_istore (lv' := [(6, .int 0), (5, .int (nI (54 * i + 466))), (0, .ref (g 315)), (1, .int n), (2, .int q), (3, .int (fo o1)), (4, .int (nI i))]) hx hb dX11_inForce_82 hl (by decide) rfl (fun ls hl => ?_)
            refine lv_iload hx hb dX11_inForce_84 (lv_at hl 0 rfl) ?_
            refine lv_if_eq (tgt := 126) hx hb dX11_inForce_86 (by decide) (fun c_86 => ?_) (fun c_86 => absurd (by decide) c_86)
            refine lv_iload_n hx hb dX11_inForce_126 rfl (lv_at hl 5 rfl) ?_
            refine lv_istore_n (lv' := [(3, .int (fo o1)), (6, .int 0), (5, .int (nI (54 * i + 466))), (0, .ref (g 315)), (1, .int n), (2, .int q), (4, .int (nI i))]) hx hb dX11_inForce_127 rfl hl (by decide) rfl (fun ls hl => ?_)
            refine lv_iinc (v := nI (i + 1)) (lv' := [(4, .int (nI (i + 1))), (3, .int (fo o1)), (6, .int 0), (5, .int (nI (54 * i + 466))), (0, .ref (g 315)), (1, .int n), (2, .int q)]) hx hb dX11_inForce_128 hl (k := 6) rfl (nI_add i 1) (by decide) rfl (fun ls hl => ?_)
            refine lv_goto (tgt := 5) hx hb dX11_inForce_131 (by decide) ?_
            exact ih_1 o1 (i + 1) _ (by omega) (ho) (by omega) (lv_sub hl [4, 5, 6, 1, 0] rfl)
          · refine lv_aload_n hx hb dX11_inForce_51 rfl (lv_at hl 1 rfl) ?_
            refine va_get (D := G.1) (ci := 10) (v := .ref (g 316)) (C := RX11) (T := TX11) (N := 25) hx hb hts inlX11 hown hG.1 hP 315 (wl_at (by decide) hmo) rfl 0 (by decide) (hts (.fieldLink RX11 7 "SwornListsModel" "st" "[I") w_112) (fun _ h9 => h9) rfl dX11_inForce_52 ?_
            refine lv_iload hx hb dX11_inForce_55 (lv_at hl 0 rfl) ?_
            refine lv_iconst (v := 2) hx hb dX11_inForce_57 (by decide) ?_
            refine lv_iadd hx hb dX11_inForce_58 ?_
            refine my_bei (v := nI (54 * i + 468)) ((nI_add (54 * i + 466) 2).trans (congrArg nI (show (54 * i + 466) + 2 = 54 * i + 468 by omega))) ?_
            refine va_iald hx hb hG.1 hP 316 0 (wl_at (by decide) hss_) rfl (vp_in_nI (by omega) (by decide)) dX11_inForce_59 ?_
            refine my_bei (v := ss (54 * i + 468)) (congrArg ss (nI_clamp (n := 54 * i + 468) (by omega))) ?_
            refine lv_iconst (v := (-1)) hx hb dX11_inForce_60 (by decide) ?_
            refine lv_icmp_eq (tgt := 77) hx hb dX11_inForce_61 (by decide) (fun c_61 => ?_) (fun c_61 => ?_)
            · refine lv_iconst (v := 1) hx hb dX11_inForce_77 (by decide) ?_
              refine lv_goto (tgt := 82) hx hb dX11_inForce_78 (by decide) ?_
              refine lv_istore (lv' := [(6, .int 1), (5, .int (nI (54 * i + 466))), (0, .ref (g 315)), (1, .int n), (2, .int q), (3, .int (fo o1)), (4, .int (nI i))]) hx hb dX11_inForce_82 hl (by decide) rfl (fun ls hl => ?_)
              refine lv_iload hx hb dX11_inForce_84 (lv_at hl 0 rfl) ?_
              refine lv_if_eq (tgt := 126) hx hb dX11_inForce_86 (by decide) (fun c_86 => absurd c_86 (by decide)) (fun c_86 => ?_)
              refine lv_iload_n hx hb dX11_inForce_89 rfl (lv_at hl 5 rfl) ?_
              refine lv_iconst (v := (-1)) hx hb dX11_inForce_90 (by decide) ?_
              refine lv_icmp_eq (tgt := 121) hx hb dX11_inForce_91 (by decide) (fun c_91 => ?_) (fun c_91 => ?_)
              · refine lv_iload hx hb dX11_inForce_121 (lv_at hl 6 rfl) ?_
                refine lv_goto (tgt := 127) hx hb dX11_inForce_123 (by decide) ?_
                refine lv_istore_n (lv' := [(3, .int (nI i)), (6, .int 1), (5, .int (nI (54 * i + 466))), (0, .ref (g 315)), (1, .int n), (2, .int q), (4, .int (nI i))]) hx hb dX11_inForce_127 rfl hl (by decide) rfl (fun ls hl => ?_)
                refine lv_iinc (v := nI (i + 1)) (lv' := [(4, .int (nI (i + 1))), (3, .int (nI i)), (6, .int 1), (5, .int (nI (54 * i + 466))), (0, .ref (g 315)), (1, .int n), (2, .int q)]) hx hb dX11_inForce_128 hl (k := 6) rfl (nI_add i 1) (by decide) rfl (fun ls hl => ?_)
                refine lv_goto (tgt := 5) hx hb dX11_inForce_131 (by decide) ?_
                exact ih_1 (some i) (i + 1) _ (by omega) (fun z hz => by cases hz; omega) (by omega) (lv_sub hl [4, 5, 6, 1, 0] rfl)
              · obtain ⟨b9, rfl⟩ : ∃ b, o1 = some b := by
                  cases o1 with
                  | none => exact absurd rfl c_91
                  | some z => exact ⟨z, rfl⟩
                have hb9 := ho b9 rfl
                refine lv_aload_n hx hb dX11_inForce_94 rfl (lv_at hl 2 rfl) ?_
                refine va_get (D := G.1) (ci := 10) (v := .ref (g 316)) (C := RX11) (T := TX11) (N := 25) hx hb hts inlX11 hown hG.1 hP 315 (wl_at (by decide) hmo) rfl 0 (by decide) (hts (.fieldLink RX11 7 "SwornListsModel" "st" "[I") w_112) (fun _ h9 => h9) rfl dX11_inForce_95 ?_
                refine lv_iload hx hb dX11_inForce_98 (lv_at hl 1 rfl) ?_
                refine lv_iconst (v := 1) hx hb dX11_inForce_100 (by decide) ?_
                refine lv_iadd hx hb dX11_inForce_101 ?_
                refine my_bei (v := nI (54 * i + 467)) ((nI_add (54 * i + 466) 1).trans (congrArg nI (show (54 * i + 466) + 1 = 54 * i + 467 by omega))) ?_
                refine va_iald hx hb hG.1 hP 316 0 (wl_at (by decide) hss_) rfl (vp_in_nI (by omega) (by decide)) dX11_inForce_102 ?_
                refine my_bei (v := ss (54 * i + 467)) (congrArg ss (nI_clamp (n := 54 * i + 467) (by omega))) ?_
                refine lv_aload_n hx hb dX11_inForce_103 rfl (lv_at hl 2 rfl) ?_
                refine va_get (D := G.1) (ci := 10) (v := .ref (g 316)) (C := RX11) (T := TX11) (N := 25) hx hb hts inlX11 hown hG.1 hP 315 (wl_at (by decide) hmo) rfl 0 (by decide) (hts (.fieldLink RX11 7 "SwornListsModel" "st" "[I") w_112) (fun _ h9 => h9) rfl dX11_inForce_104 ?_
                refine lv_sipush (v := 466) hx hb dX11_inForce_107 (by decide) ?_
                refine lv_bipush (v := 54) hx hb dX11_inForce_110 (by decide) ?_
                refine lv_iload_n hx hb dX11_inForce_112 rfl (lv_at hl 5 rfl) ?_
                refine lv_imul hx hb dX11_inForce_113 ?_
                refine my_bei (v := nI (54 * b9)) (pk_mul 54 b9) ?_
                refine lv_iadd hx hb dX11_inForce_114 ?_
                refine my_bei (v := nI (54 * b9 + 466)) ((nI_add 466 (54 * b9)).trans (congrArg nI (show 466 + (54 * b9) = 54 * b9 + 466 by omega))) ?_
                refine lv_iconst (v := 1) hx hb dX11_inForce_115 (by decide) ?_
                refine lv_iadd hx hb dX11_inForce_116 ?_
                refine my_bei (v := nI (54 * b9 + 467)) ((nI_add (54 * b9 + 466) 1).trans (congrArg nI (show (54 * b9 + 466) + 1 = 54 * b9 + 467 by omega))) ?_
                refine va_iald hx hb hG.1 hP 316 0 (wl_at (by decide) hss_) rfl (vp_in_nI (by omega) (by decide)) dX11_inForce_117 ?_
                refine my_bei (v := ss (54 * b9 + 467)) (congrArg ss (nI_clamp (n := 54 * b9 + 467) (by omega))) ?_
                refine lv_icmp_lt (tgt := 126) hx hb dX11_inForce_118 (by decide) (fun c_118 => ?_) (fun c_118 => ?_)
                · refine lv_iload_n hx hb dX11_inForce_126 rfl (lv_at hl 5 rfl) ?_
                  refine lv_istore_n (lv' := [(3, .int (nI b9)), (6, .int 1), (5, .int (nI (54 * i + 466))), (0, .ref (g 315)), (1, .int n), (2, .int q), (4, .int (nI i))]) hx hb dX11_inForce_127 rfl hl (by decide) rfl (fun ls hl => ?_)
                  refine lv_iinc (v := nI (i + 1)) (lv' := [(4, .int (nI (i + 1))), (3, .int (nI b9)), (6, .int 1), (5, .int (nI (54 * i + 466))), (0, .ref (g 315)), (1, .int n), (2, .int q)]) hx hb dX11_inForce_128 hl (k := 6) rfl (nI_add i 1) (by decide) rfl (fun ls hl => ?_)
                  refine lv_goto (tgt := 5) hx hb dX11_inForce_131 (by decide) ?_
                  exact ih_1 (some b9) (i + 1) _ (by omega) (ho) (by omega) (lv_sub hl [4, 5, 6, 1, 0] rfl)
                · refine lv_iload hx hb dX11_inForce_121 (lv_at hl 6 rfl) ?_
                  refine lv_goto (tgt := 127) hx hb dX11_inForce_123 (by decide) ?_
                  refine lv_istore_n (lv' := [(3, .int (nI i)), (6, .int 1), (5, .int (nI (54 * i + 466))), (0, .ref (g 315)), (1, .int n), (2, .int q), (4, .int (nI i))]) hx hb dX11_inForce_127 rfl hl (by decide) rfl (fun ls hl => ?_)
                  refine lv_iinc (v := nI (i + 1)) (lv' := [(4, .int (nI (i + 1))), (3, .int (nI i)), (6, .int 1), (5, .int (nI (54 * i + 466))), (0, .ref (g 315)), (1, .int n), (2, .int q)]) hx hb dX11_inForce_128 hl (k := 6) rfl (nI_add i 1) (by decide) rfl (fun ls hl => ?_)
                  refine lv_goto (tgt := 5) hx hb dX11_inForce_131 (by decide) ?_
                  exact ih_1 (some i) (i + 1) _ (by omega) (fun z hz => by cases hz; omega) (by omega) (lv_sub hl [4, 5, 6, 1, 0] rfl)
            · refine lv_aload_n hx hb dX11_inForce_64 rfl (lv_at hl 1 rfl) ?_
              refine va_get (D := G.1) (ci := 10) (v := .ref (g 316)) (C := RX11) (T := TX11) (N := 25) hx hb hts inlX11 hown hG.1 hP 315 (wl_at (by decide) hmo) rfl 0 (by decide) (hts (.fieldLink RX11 7 "SwornListsModel" "st" "[I") w_112) (fun _ h9 => h9) rfl dX11_inForce_65 ?_
              refine lv_iload hx hb dX11_inForce_68 (lv_at hl 0 rfl) ?_
              refine lv_iconst (v := 2) hx hb dX11_inForce_70 (by decide) ?_
              refine lv_iadd hx hb dX11_inForce_71 ?_
              refine my_bei (v := nI (54 * i + 468)) ((nI_add (54 * i + 466) 2).trans (congrArg nI (show (54 * i + 466) + 2 = 54 * i + 468 by omega))) ?_
              refine va_iald hx hb hG.1 hP 316 0 (wl_at (by decide) hss_) rfl (vp_in_nI (by omega) (by decide)) dX11_inForce_72 ?_
              refine my_bei (v := ss (54 * i + 468)) (congrArg ss (nI_clamp (n := 54 * i + 468) (by omega))) ?_
              refine lv_iload_n hx hb dX11_inForce_73 rfl (lv_at hl 3 rfl) ?_
              refine lv_icmp_le (tgt := 81) hx hb dX11_inForce_74 (by decide) (fun c_74 => ?_) (fun c_74 => ?_)
              · refine lv_iconst (v := 0) hx hb dX11_inForce_81 (by decide) ?_
                refine lv_istore (lv' := [(6, .int 0), (5, .int (nI (54 * i + 466))), (0, .ref (g 315)), (1, .int n), (2, .int q), (3, .int (fo o1)), (4, .int (nI i))]) hx hb dX11_inForce_82 hl (by decide) rfl (fun ls hl => ?_)
                refine lv_iload hx hb dX11_inForce_84 (lv_at hl 0 rfl) ?_
                refine lv_if_eq (tgt := 126) hx hb dX11_inForce_86 (by decide) (fun c_86 => ?_) (fun c_86 => absurd (by decide) c_86)
                refine lv_iload_n hx hb dX11_inForce_126 rfl (lv_at hl 5 rfl) ?_
                refine lv_istore_n (lv' := [(3, .int (fo o1)), (6, .int 0), (5, .int (nI (54 * i + 466))), (0, .ref (g 315)), (1, .int n), (2, .int q), (4, .int (nI i))]) hx hb dX11_inForce_127 rfl hl (by decide) rfl (fun ls hl => ?_)
                refine lv_iinc (v := nI (i + 1)) (lv' := [(4, .int (nI (i + 1))), (3, .int (fo o1)), (6, .int 0), (5, .int (nI (54 * i + 466))), (0, .ref (g 315)), (1, .int n), (2, .int q)]) hx hb dX11_inForce_128 hl (k := 6) rfl (nI_add i 1) (by decide) rfl (fun ls hl => ?_)
                refine lv_goto (tgt := 5) hx hb dX11_inForce_131 (by decide) ?_
                exact ih_1 o1 (i + 1) _ (by omega) (ho) (by omega) (lv_sub hl [4, 5, 6, 1, 0] rfl)
              · refine lv_iconst (v := 1) hx hb dX11_inForce_77 (by decide) ?_
                refine lv_goto (tgt := 82) hx hb dX11_inForce_78 (by decide) ?_
                refine lv_istore (lv' := [(6, .int 1), (5, .int (nI (54 * i + 466))), (0, .ref (g 315)), (1, .int n), (2, .int q), (3, .int (fo o1)), (4, .int (nI i))]) hx hb dX11_inForce_82 hl (by decide) rfl (fun ls hl => ?_)
                refine lv_iload hx hb dX11_inForce_84 (lv_at hl 0 rfl) ?_
                refine lv_if_eq (tgt := 126) hx hb dX11_inForce_86 (by decide) (fun c_86 => absurd c_86 (by decide)) (fun c_86 => ?_)
                refine lv_iload_n hx hb dX11_inForce_89 rfl (lv_at hl 5 rfl) ?_
                refine lv_iconst (v := (-1)) hx hb dX11_inForce_90 (by decide) ?_
                refine lv_icmp_eq (tgt := 121) hx hb dX11_inForce_91 (by decide) (fun c_91 => ?_) (fun c_91 => ?_)
                · refine lv_iload hx hb dX11_inForce_121 (lv_at hl 6 rfl) ?_
                  refine lv_goto (tgt := 127) hx hb dX11_inForce_123 (by decide) ?_
                  refine lv_istore_n (lv' := [(3, .int (nI i)), (6, .int 1), (5, .int (nI (54 * i + 466))), (0, .ref (g 315)), (1, .int n), (2, .int q), (4, .int (nI i))]) hx hb dX11_inForce_127 rfl hl (by decide) rfl (fun ls hl => ?_)
                  refine lv_iinc (v := nI (i + 1)) (lv' := [(4, .int (nI (i + 1))), (3, .int (nI i)), (6, .int 1), (5, .int (nI (54 * i + 466))), (0, .ref (g 315)), (1, .int n), (2, .int q)]) hx hb dX11_inForce_128 hl (k := 6) rfl (nI_add i 1) (by decide) rfl (fun ls hl => ?_)
                  refine lv_goto (tgt := 5) hx hb dX11_inForce_131 (by decide) ?_
                  exact ih_1 (some i) (i + 1) _ (by omega) (fun z hz => by cases hz; omega) (by omega) (lv_sub hl [4, 5, 6, 1, 0] rfl)
                · obtain ⟨b9, rfl⟩ : ∃ b, o1 = some b := by
                    cases o1 with
                    | none => exact absurd rfl c_91
                    | some z => exact ⟨z, rfl⟩
                  have hb9 := ho b9 rfl
                  refine lv_aload_n hx hb dX11_inForce_94 rfl (lv_at hl 2 rfl) ?_
                  refine va_get (D := G.1) (ci := 10) (v := .ref (g 316)) (C := RX11) (T := TX11) (N := 25) hx hb hts inlX11 hown hG.1 hP 315 (wl_at (by decide) hmo) rfl 0 (by decide) (hts (.fieldLink RX11 7 "SwornListsModel" "st" "[I") w_112) (fun _ h9 => h9) rfl dX11_inForce_95 ?_
                  refine lv_iload hx hb dX11_inForce_98 (lv_at hl 1 rfl) ?_
                  refine lv_iconst (v := 1) hx hb dX11_inForce_100 (by decide) ?_
                  refine lv_iadd hx hb dX11_inForce_101 ?_
                  refine my_bei (v := nI (54 * i + 467)) ((nI_add (54 * i + 466) 1).trans (congrArg nI (show (54 * i + 466) + 1 = 54 * i + 467 by omega))) ?_
                  refine va_iald hx hb hG.1 hP 316 0 (wl_at (by decide) hss_) rfl (vp_in_nI (by omega) (by decide)) dX11_inForce_102 ?_
                  refine my_bei (v := ss (54 * i + 467)) (congrArg ss (nI_clamp (n := 54 * i + 467) (by omega))) ?_
                  refine lv_aload_n hx hb dX11_inForce_103 rfl (lv_at hl 2 rfl) ?_
                  refine va_get (D := G.1) (ci := 10) (v := .ref (g 316)) (C := RX11) (T := TX11) (N := 25) hx hb hts inlX11 hown hG.1 hP 315 (wl_at (by decide) hmo) rfl 0 (by decide) (hts (.fieldLink RX11 7 "SwornListsModel" "st" "[I") w_112) (fun _ h9 => h9) rfl dX11_inForce_104 ?_
                  refine lv_sipush (v := 466) hx hb dX11_inForce_107 (by decide) ?_
                  refine lv_bipush (v := 54) hx hb dX11_inForce_110 (by decide) ?_
                  refine lv_iload_n hx hb dX11_inForce_112 rfl (lv_at hl 5 rfl) ?_
                  refine lv_imul hx hb dX11_inForce_113 ?_
                  refine my_bei (v := nI (54 * b9)) (pk_mul 54 b9) ?_
                  refine lv_iadd hx hb dX11_inForce_114 ?_
                  refine my_bei (v := nI (54 * b9 + 466)) ((nI_add 466 (54 * b9)).trans (congrArg nI (show 466 + (54 * b9) = 54 * b9 + 466 by omega))) ?_
                  refine lv_iconst (v := 1) hx hb dX11_inForce_115 (by decide) ?_
                  refine lv_iadd hx hb dX11_inForce_116 ?_
                  refine my_bei (v := nI (54 * b9 + 467)) ((nI_add (54 * b9 + 466) 1).trans (congrArg nI (show (54 * b9 + 466) + 1 = 54 * b9 + 467 by omega))) ?_
                  refine va_iald hx hb hG.1 hP 316 0 (wl_at (by decide) hss_) rfl (vp_in_nI (by omega) (by decide)) dX11_inForce_117 ?_
                  refine my_bei (v := ss (54 * b9 + 467)) (congrArg ss (nI_clamp (n := 54 * b9 + 467) (by omega))) ?_
                  refine lv_icmp_lt (tgt := 126) hx hb dX11_inForce_118 (by decide) (fun c_118 => ?_) (fun c_118 => ?_)
                  · refine lv_iload_n hx hb dX11_inForce_126 rfl (lv_at hl 5 rfl) ?_
                    refine lv_istore_n (lv' := [(3, .int (nI b9)), (6, .int 1), (5, .int (nI (54 * i + 466))), (0, .ref (g 315)), (1, .int n), (2, .int q), (4, .int (nI i))]) hx hb dX11_inForce_127 rfl hl (by decide) rfl (fun ls hl => ?_)
                    refine lv_iinc (v := nI (i + 1)) (lv' := [(4, .int (nI (i + 1))), (3, .int (nI b9)), (6, .int 1), (5, .int (nI (54 * i + 466))), (0, .ref (g 315)), (1, .int n), (2, .int q)]) hx hb dX11_inForce_128 hl (k := 6) rfl (nI_add i 1) (by decide) rfl (fun ls hl => ?_)
                    refine lv_goto (tgt := 5) hx hb dX11_inForce_131 (by decide) ?_
                    exact ih_1 (some b9) (i + 1) _ (by omega) (ho) (by omega) (lv_sub hl [4, 5, 6, 1, 0] rfl)
                  · refine lv_iload hx hb dX11_inForce_121 (lv_at hl 6 rfl) ?_
                    refine lv_goto (tgt := 127) hx hb dX11_inForce_123 (by decide) ?_
                    refine lv_istore_n (lv' := [(3, .int (nI i)), (6, .int 1), (5, .int (nI (54 * i + 466))), (0, .ref (g 315)), (1, .int n), (2, .int q), (4, .int (nI i))]) hx hb dX11_inForce_127 rfl hl (by decide) rfl (fun ls hl => ?_)
                    refine lv_iinc (v := nI (i + 1)) (lv' := [(4, .int (nI (i + 1))), (3, .int (nI i)), (6, .int 1), (5, .int (nI (54 * i + 466))), (0, .ref (g 315)), (1, .int n), (2, .int q)]) hx hb dX11_inForce_128 hl (k := 6) rfl (nI_add i 1) (by decide) rfl (fun ls hl => ?_)
                    refine lv_goto (tgt := 5) hx hb dX11_inForce_131 (by decide) ?_
                    exact ih_1 (some i) (i + 1) _ (by omega) (fun z hz => by cases hz; omega) (by omega) (lv_sub hl [4, 5, 6, 1, 0] rfl)
  exact key1 (na + 1) none 0 _ (Nat.zero_le _) (fun z hz => by cases hz) (by omega) (lv_sub hl [2, 3, 4, 1, 0] rfl)
set_option maxHeartbeats 4000000 in
set_option maxRecDepth 100000 in
theorem r_whomN (l : Launch) (G : gW) (g : Nat → Nat) (hg : gOK g) (f : Nat → va_E) (ab2 : Int64) (be2 : Int64) (sn : Int32) (wn : Int32) (sa : Int32) (ly : Int32) (rdy : Int32) (fd : Nat) (ss : Nat → Int32) (np : Nat) (nf : Nat) (nr : Nat) (na : Nat) (nt : Nat) (sp : Nat → Int32) (wi : Nat → Int32) (wa : Nat → Int32) (va : Nat → Int64) (ju : Nat → Int32) (n : Int32) (q : Int32) (hmo : f 315 = eO 10 [.ref (g 316), .ref (g 317), .ref (g 318), .long ab2, .long be2, .int sn, .ref (g 319), .ref (g 320), .int wn, .ref (g 321), .ref (g 322), .int sa, .int ly, .int rdy, .int (nI fd), .ref (g 323), .ref (g 324), .ref (g 325), .ref (g 326), .ref (g 327), .ref (g 328), .ref (g 329), .ref (g 330), .ref (g 331), .ref (g 332)]) (hss_ : f 316 = eI G 2246 ss) (hsp_ : f 319 = eI G 70 sp) (hwi_ : f 320 = eI G 70 wi) (hwa_ : f 321 = eI G 70 wa) (hva_ : f 322 = eJ G 70 va) (hju_ : f 324 = eI G 11 ju) (hst : stOK ss np nf nr na nt) (hfo : fd ≤ 10) : Met l yX11_whom (wsT yX11_whom cX11_whom 8 (some .int)) ({ frames := 4, cells := 0, slots := 0, locals := 93 }) (bP G g f [.ref (g 315), .int n, .int q, .int (-1)]) (bQi G g (fun (z9 : Int32) (f' : Nat → va_E) => ∃ sn9 : Int32, ∃ wn9 : Int32, ∃ sa9 : Int32, ∃ ly9 : Int32, ∃ sp9 : Nat → Int32, ∃ wi9 : Nat → Int32, ∃ wa9 : Nat → Int32, ∃ va9 : Nat → Int64, f' 315 = eO 10 [.ref (g 316), .ref (g 317), .ref (g 318), .long ab2, .long be2, .int sn9, .ref (g 319), .ref (g 320), .int wn9, .ref (g 321), .ref (g 322), .int sa9, .int ly9, .int rdy, .int (nI fd), .ref (g 323), .ref (g 324), .ref (g 325), .ref (g 326), .ref (g 327), .ref (g 328), .ref (g 329), .ref (g 330), .ref (g 331), .ref (g 332)] ∧ f' 319 = eI G 70 sp9 ∧ f' 320 = eI G 70 wi9 ∧ f' 321 = eI G 70 wa9 ∧ f' 322 = eJ G 70 va9 ∧ ∀ j, (j ≠ 315 ∧ j ≠ 319 ∧ j ≠ 320 ∧ j ≠ 321 ∧ j ≠ 322) → f' j = f j)) 0 0 (gA g) := by
  refine Met.ofW (cc := cX11_whom) (maxL := 8) (ret := (some .int)) (by decide) rfl ?_
  intro p e s m args below meth c s₁ B hml hv
  obtain ⟨rfl, hP, hG⟩ := hv
  have hx := B.exec
  have hb := B.bytes
  have hr := B.returns
  have hts := my_hts (atoms_spec (ws := wsT yX11_whom cX11_whom 8 (some .int)) B.pre)
  have hown : s.vm.findClass RX11 = some m.cls := findClass_of_methodNamed B.named
  have hlocks := B.notSynchronized
  have hS : va_S (gA g) s.heap s.heap [] := va_S.rf
  have hl := lv_entry ([.ref (g 315), .int n, .int q, .int (-1)]) (n := 8) (Nat.le_of_ble_eq_true rfl)
  rw [lg_entry_eq]
  generalize (lg_sl ([.ref (g 315), .int n, .int q, .int (-1)]) ++ List.replicate (8 - (lg_sl ([.ref (g 315), .int n, .int q, .int (-1)])).length) Slot.unset).toArray = ls at hl ⊢
  have hl : lv_has ls 8 [(0, .ref (g 315)), (1, .int n), (2, .int q), (3, .int (-1))] := hl
  have hc0 := hst.c0
  have hc1 := hst.c1
  have hc2 := hst.c2
  have hc3 := hst.c3
  have hc4 := hst.c4
  refine lv_aload_n hx hb dX11_whom_0 rfl (lv_at hl 0 rfl) ?_
  refine lv_iload_n hx hb dX11_whom_1 rfl (lv_at hl 1 rfl) ?_
  refine lv_iload_n hx hb dX11_whom_2 rfl (lv_at hl 2 rfl) ?_
  refine rd_calli (va_runV (As := [.int n, .int q]) (rest := []) ⟨hx, hb, hml, hown, hts⟩ (r_inForce l G g hg f ab2 be2 sn wn sa ly rdy (nI fd) ss np nf nr na nt n q hmo hss_ (by first | assumption | omega | decide)) (my_cwV hts ok_X11_inForce w_540 rfl rfl ⟨Nat.le_of_ble_eq_true rfl, Nat.le_of_ble_eq_true rfl⟩) ⟨bP.blind, va_recv hG.1 hP (ci := 10) (q0 := 315) rfl (wl_at (by decide) hmo), fun U hU hW => ⟨rfl, by rw [hU]; exact hP, kG.warm hW hG⟩⟩ rfl rfl hl.1 rfl (lv_room (Nat.le_of_ble_eq_true rfl)) dX11_whom_3 ⟨Nat.le_of_ble_eq_true rfl, Nat.le_of_ble_eq_true rfl⟩) (fun r hr9 => ?_)
  obtain ⟨o91, rfl, hx_1_0⟩ := hr9
  refine lv_istore (lv' := [(4, .int (fo o91)), (0, .ref (g 315)), (1, .int n), (2, .int q), (3, .int (-1))]) hx hb dX11_whom_6 hl (by decide) rfl (fun ls hl => ?_)
  refine lv_iload_n hx hb dX11_whom_8 rfl (lv_at hl 4 rfl) ?_
  refine lv_iconst (v := (-1)) hx hb dX11_whom_9 (by decide) ?_
  refine lv_icmp_eq (tgt := 24) hx hb dX11_whom_10 (by decide) (fun c_10 => ?_) (fun c_10 => absurd (by decide) c_10)
  refine lv_iload hx hb dX11_whom_24 (lv_at hl 0 rfl) ?_
  refine lv_iconst (v := (-1)) hx hb dX11_whom_26 (by decide) ?_
  refine lv_icmp_ne (tgt := 34) hx hb dX11_whom_27 (by decide) (fun c_27 => ?_) (fun c_27 => ?_)
  · obtain ⟨b9, rfl⟩ : ∃ b, o91 = some b := by
      cases o91 with
      | none => exact absurd rfl c_27
      | some z => exact ⟨z, rfl⟩
    have hb9 := hx_1_0 b9 rfl
    obtain ⟨l9, hl9, hl8, hl7⟩ := hst.ac b9 hb9
    refine lv_sipush (v := 466) hx hb dX11_whom_34 (by decide) ?_
    refine lv_bipush (v := 54) hx hb dX11_whom_37 (by decide) ?_
    refine lv_iload hx hb dX11_whom_39 (lv_at hl 0 rfl) ?_
    refine lv_imul hx hb dX11_whom_41 ?_
    refine my_bei (v := nI (54 * b9)) (pk_mul 54 b9) ?_
    refine lv_iadd hx hb dX11_whom_42 ?_
    refine my_bei (v := nI (54 * b9 + 466)) ((nI_add 466 (54 * b9)).trans (congrArg nI (show 466 + (54 * b9) = 54 * b9 + 466 by omega))) ?_
    refine lv_iconst (v := 3) hx hb dX11_whom_43 (by decide) ?_
    refine lv_iadd hx hb dX11_whom_44 ?_
    refine my_bei (v := nI (54 * b9 + 469)) ((nI_add (54 * b9 + 466) 3).trans (congrArg nI (show (54 * b9 + 466) + 3 = 54 * b9 + 469 by omega))) ?_
    refine lv_istore (lv' := [(5, .int (nI (54 * b9 + 469))), (4, .int (nI b9)), (0, .ref (g 315)), (1, .int n), (2, .int q), (3, .int (-1))]) hx hb dX11_whom_45 hl (by decide) rfl (fun ls hl => ?_)
    refine lv_iload hx hb dX11_whom_47 (lv_at hl 0 rfl) ?_
    refine lv_iconst (v := (-1)) hx hb dX11_whom_49 (by decide) ?_
    refine lv_icmp_ne (tgt := 66) hx hb dX11_whom_50 (by decide) (fun c_50 => ?_) (fun c_50 => absurd c_50 (nI_m1 (by omega)))
    refine lv_aload_n hx hb dX11_whom_66 rfl (lv_at hl 2 rfl) ?_
    refine lv_iload hx hb dX11_whom_67 (lv_at hl 0 rfl) ?_
    refine b_calli (va_runV (As := [.int (nI (54 * b9 + 469))]) (rest := []) ⟨hx, hb, hml, hown, hts⟩ (r_reads l G g hg f ab2 be2 sn wn sa ly rdy (nI fd) ss sp wi wa (54 * b9 + 469) l9 hmo hss_ hsp_ hwi_ hwa_ (by first | assumption | omega | decide) (hl8) (by first | assumption | omega | decide)) (my_cwV hts ok_X11_reads w_345 rfl rfl ⟨Nat.le_of_ble_eq_true rfl, Nat.le_of_ble_eq_true rfl⟩) ⟨bP.blind, va_recv hG.1 hP (ci := 10) (q0 := 315) rfl (wl_at (by decide) hmo), fun U hU hW => ⟨rfl, by rw [hU]; exact hP, kG.warm hW hG⟩⟩ rfl rfl hl.1 rfl (lv_room (Nat.le_of_ble_eq_true rfl)) dX11_whom_69 ⟨Nat.le_of_ble_eq_true rfl, Nat.le_of_ble_eq_true rfl⟩) hS (fun v2 f_2 H locs hq9 hP hS => ?_)
    obtain ⟨sn93, wn94, sp95, wi96, wa97, rfl, hq_2_0, hq_2_1, hq_2_2, hq_2_3, hx_2_0, o_2⟩ := hq9
    have hmo : f_2 315 = eO 10 [.ref (g 316), .ref (g 317), .ref (g 318), .long ab2, .long be2, .int (nI sn93), .ref (g 319), .ref (g 320), .int (nI wn94), .ref (g 321), .ref (g 322), .int sa, .int ly, .int rdy, .int (nI fd), .ref (g 323), .ref (g 324), .ref (g 325), .ref (g 326), .ref (g 327), .ref (g 328), .ref (g 329), .ref (g 330), .ref (g 331), .ref (g 332)] := hq_2_0
    have hsp_ : f_2 319 = eI G 70 sp95 := hq_2_1
    have hwi_ : f_2 320 = eI G 70 wi96 := hq_2_2
    have hwa_ : f_2 321 = eI G 70 wa97 := hq_2_3
    refine lv_pop hx hb dX11_whom_72 rfl ?_
    obtain ⟨hdp1, hdp2⟩ := hx_2_0 hl7
    refine lv_iconst (v := 0) hx hb dX11_whom_73 (by decide) ?_
    refine lv_istore (lv' := [(6, .int 0), (5, .int (nI (54 * b9 + 469))), (4, .int (nI b9)), (0, .ref (g 315)), (1, .int n), (2, .int q), (3, .int (-1))]) hx hb dX11_whom_74 hl (by decide) rfl (fun ls hl => ?_)
    refine lv_iconst (v := 0) hx hb dX11_whom_76 (by decide) ?_
    refine lv_istore (lv' := [(7, .int 0), (6, .int 0), (5, .int (nI (54 * b9 + 469))), (4, .int (nI b9)), (0, .ref (g 315)), (1, .int n), (2, .int q), (3, .int (-1))]) hx hb dX11_whom_77 hl (by decide) rfl (fun ls hl => ?_)
    replace hss_ := ((o_2 316 (by first | decide | omega))).trans hss_
    replace hva_ := ((o_2 322 (by first | decide | omega))).trans hva_
    replace hju_ := ((o_2 324 (by first | decide | omega))).trans hju_
    have key8 : ∀ (n9_8 : Nat) (i : Nat) (u : Int32) (sa1 : Int32) (ly1 : Int32) (va1 : Nat → Int64) (f_3 : Nat → va_E) (H : Heap) (locs : List Loc) (ls : Array Slot), (i ≤ np) → np - i < n9_8 → f_3 315 = eO 10 [.ref (g 316), .ref (g 317), .ref (g 318), .long ab2, .long be2, .int (nI sn93), .ref (g 319), .ref (g 320), .int (nI wn94), .ref (g 321), .ref (g 322), .int sa1, .int ly1, .int rdy, .int (nI fd), .ref (g 323), .ref (g 324), .ref (g 325), .ref (g 326), .ref (g 327), .ref (g 328), .ref (g 329), .ref (g 330), .ref (g 331), .ref (g 332)] → f_3 316 = eI G 2246 ss → f_3 319 = eI G 70 sp95 → f_3 320 = eI G 70 wi96 → f_3 321 = eI G 70 wa97 → f_3 322 = eJ G 70 va1 → f_3 324 = eI G 11 ju → (∀ j, (j ≠ 315 ∧ j ≠ 322) → f_3 j = f_2 j) → va_P G.1 vwCl (wl g f_3) H → va_S (gA g) s.heap H locs → lv_has ls 8 [(0, .ref (g 315)), (2, .int q), (6, .int u), (7, .int (nI i))] → W p l e (headSpec (wsT yX11_whom cX11_whom 8 (some .int)) ({ frames := 4, cells := 0, slots := 0, locals := 93 })).room s m ([.ref (g 315), .int n, .int q, .int (-1)] : List Value).toArray below meth c H locs 0 0 (MQ below (bQi G g (fun (z9 : Int32) (f' : Nat → va_E) => ∃ sn9 : Int32, ∃ wn9 : Int32, ∃ sa9 : Int32, ∃ ly9 : Int32, ∃ sp9 : Nat → Int32, ∃ wi9 : Nat → Int32, ∃ wa9 : Nat → Int32, ∃ va9 : Nat → Int64, f' 315 = eO 10 [.ref (g 316), .ref (g 317), .ref (g 318), .long ab2, .long be2, .int sn9, .ref (g 319), .ref (g 320), .int wn9, .ref (g 321), .ref (g 322), .int sa9, .int ly9, .int rdy, .int (nI fd), .ref (g 323), .ref (g 324), .ref (g 325), .ref (g 326), .ref (g 327), .ref (g 328), .ref (g 329), .ref (g 330), .ref (g 331), .ref (g 332)] ∧ f' 319 = eI G 70 sp9 ∧ f' 320 = eI G 70 wi9 ∧ f' 321 = eI G 70 wa9 ∧ f' 322 = eJ G 70 va9 ∧ ∀ j, (j ≠ 315 ∧ j ≠ 319 ∧ j ≠ 320 ∧ j ≠ 321 ∧ j ≠ 322) → f' j = f j)) ([.ref (g 315), .int n, .int q, .int (-1)] : List Value).toArray s 0 0 (gA g)) (F0 m 79 ls []) := by
      intro n9_8
      induction n9_8 with
      | zero => intro i u sa1 ly1 va1 f_3 H locs ls hi hn9_8; exact absurd hn9_8 (Nat.not_lt_zero _)
      | succ n9_8 ih_8 =>
        intro i u sa1 ly1 va1 f_3 H locs ls hi hn9_8 hmo hss_ hsp_ hwi_ hwa_ hva_ hju_ o_3 hP hS hl
        refine lv_iload hx hb dX11_whom_79 (lv_at hl 3 rfl) ?_
        refine lv_aload_n hx hb dX11_whom_81 rfl (lv_at hl 0 rfl) ?_
        refine va_get (D := G.1) (ci := 10) (v := .ref (g 316)) (C := RX11) (T := TX11) (N := 25) hx hb hts inlX11 hown hG.1 hP 315 (wl_at (by decide) hmo) rfl 0 (by decide) (hts (.fieldLink RX11 7 "SwornListsModel" "st" "[I") w_112) (fun _ h9 => h9) rfl dX11_whom_82 ?_
        refine lv_iconst (v := 0) hx hb dX11_whom_85 (by decide) ?_
        refine va_iald hx hb hG.1 hP 316 0 (wl_at (by decide) hss_) rfl (by unfold vp_in; decide) dX11_whom_86 ?_
        refine my_bei (v := ss 0) (rfl) ?_
        refine my_bei (v := nI np) (hst.h0) ?_
        refine lv_icmp_ge (tgt := 121) hx hb dX11_whom_87 (by decide) (fun c_87 => ?_) (fun c_87 => ?_)
        · have k_87 : np ≤ i := (nI_leI (a := np) (b := i) (by omega) (by omega)).mp c_87
          refine lv_iload hx hb dX11_whom_121 (lv_at hl 2 rfl) ?_
          exact W.iret (v := u) hx hb hr (fun t ht hW => ⟨⟨_, f_3, rfl, (⟨(nI sn93), (nI wn94), sa1, ly1, sp95, wi96, wa97, va1, hmo, hsp_, hwi_, hwa_, hva_, fun j hj => ((o_3 j (by omega))).trans (o_2 j (by omega))⟩), by rw [ht]; exact hP⟩, hS.F ht⟩) hS.2.2 dX11_whom_123
        · have k_87 : ¬ np ≤ i := fun z9 => c_87 ((nI_leI (a := np) (b := i) (by omega) (by omega)).mpr z9)
          refine lv_iload hx hb dX11_whom_90 (lv_at hl 2 rfl) ?_
          refine lv_aload_n hx hb dX11_whom_92 rfl (lv_at hl 0 rfl) ?_
          refine lv_iload hx hb dX11_whom_93 (lv_at hl 3 rfl) ?_
          refine lv_iload_n hx hb dX11_whom_95 rfl (lv_at hl 1 rfl) ?_
          refine b_calll (va_runV (As := [.int (nI i), .int q]) (rest := [.int u]) ⟨hx, hb, hml, hown, hts⟩ (r_tellsOf l G g hg f_3 ab2 be2 sn93 (nI wn94) sa1 ly1 rdy fd ss ju sp95 wi96 va1 i 1 q hmo hss_ hsp_ hwi_ hva_ hju_ (by first | assumption | omega | decide) (by first | assumption | omega | decide) (by omega) (hdp1)) (my_cwV hts ok_X11_tellsOf w_544 rfl rfl ⟨Nat.le_of_ble_eq_true rfl, Nat.le_of_ble_eq_true rfl⟩) ⟨bP.blind, va_recv hG.1 hP (ci := 10) (q0 := 315) rfl (wl_at (by decide) hmo), fun U hU hW => ⟨rfl, by rw [hU]; exact hP, kG.warm hW hG⟩⟩ rfl rfl hl.1 rfl (lv_room (Nat.le_of_ble_eq_true rfl)) dX11_whom_96 ⟨Nat.le_of_ble_eq_true rfl, Nat.le_of_ble_eq_true rfl⟩) hS (fun v9 f_4 H locs hq9 hP hS => ?_)
          obtain ⟨sa910, ly911, va912, hq_4_0, hq_4_1, o_4⟩ := hq9
          have hmo : f_4 315 = eO 10 [.ref (g 316), .ref (g 317), .ref (g 318), .long ab2, .long be2, .int (nI sn93), .ref (g 319), .ref (g 320), .int (nI wn94), .ref (g 321), .ref (g 322), .int sa910, .int ly911, .int rdy, .int (nI fd), .ref (g 323), .ref (g 324), .ref (g 325), .ref (g 326), .ref (g 327), .ref (g 328), .ref (g 329), .ref (g 330), .ref (g 331), .ref (g 332)] := hq_4_0
          have hva_ : f_4 322 = eJ G 70 va912 := hq_4_1
          refine lv_lconst (v := 0) hx hb dX11_whom_99 (by decide) ?_
          refine W.lcmp hx hb dX11_whom_100 ?_
          refine lv_if_eq (tgt := 111) hx hb dX11_whom_101 (by decide) (fun c_101 => ?_) (fun c_101 => ?_)
          · refine lv_iconst (v := 0) hx hb dX11_whom_111 (by decide) ?_
            refine lv_ior hx hb dX11_whom_112 ?_
            refine lv_istore (lv' := [(6, .int (u ||| 0)), (0, .ref (g 315)), (2, .int q), (7, .int (nI i))]) hx hb dX11_whom_113 hl (by decide) rfl (fun ls hl => ?_)
            refine lv_iinc (v := nI (i + 1)) (lv' := [(7, .int (nI (i + 1))), (6, .int (u ||| 0)), (0, .ref (g 315)), (2, .int q)]) hx hb dX11_whom_115 hl (k := 3) rfl (nI_add i 1) (by decide) rfl (fun ls hl => ?_)
            refine lv_goto (tgt := 79) hx hb dX11_whom_118 (by decide) ?_
            replace hss_ := ((o_4 316 (by first | decide | omega))).trans hss_
            replace hsp_ := ((o_4 319 (by first | decide | omega))).trans hsp_
            replace hwi_ := ((o_4 320 (by first | decide | omega))).trans hwi_
            replace hwa_ := ((o_4 321 (by first | decide | omega))).trans hwa_
            replace hju_ := ((o_4 324 (by first | decide | omega))).trans hju_
            exact ih_8 (i + 1) (u ||| 0) sa910 ly911 va912 f_4 _ _ _ (by omega) (by omega) (hmo) (hss_) (hsp_) (hwi_) (hwa_) (hva_) (hju_) (fun j hj => ((o_4 j (by omega))).trans (o_3 j (by omega))) hP hS (lv_sub hl [2, 3, 1, 0] rfl)
          · refine lv_iconst (v := 1) hx hb dX11_whom_104 (by decide) ?_
            refine lv_iload hx hb dX11_whom_105 (lv_at hl 3 rfl) ?_
            refine lv_ishl hx hb dX11_whom_107 ?_
            refine lv_goto (tgt := 112) hx hb dX11_whom_108 (by decide) ?_
            refine lv_ior hx hb dX11_whom_112 ?_
            refine lv_istore (lv' := [(6, .int (u ||| (1 <<< ((nI i) &&& 31)))), (0, .ref (g 315)), (2, .int q), (7, .int (nI i))]) hx hb dX11_whom_113 hl (by decide) rfl (fun ls hl => ?_)
            refine lv_iinc (v := nI (i + 1)) (lv' := [(7, .int (nI (i + 1))), (6, .int (u ||| (1 <<< ((nI i) &&& 31)))), (0, .ref (g 315)), (2, .int q)]) hx hb dX11_whom_115 hl (k := 3) rfl (nI_add i 1) (by decide) rfl (fun ls hl => ?_)
            refine lv_goto (tgt := 79) hx hb dX11_whom_118 (by decide) ?_
            replace hss_ := ((o_4 316 (by first | decide | omega))).trans hss_
            replace hsp_ := ((o_4 319 (by first | decide | omega))).trans hsp_
            replace hwi_ := ((o_4 320 (by first | decide | omega))).trans hwi_
            replace hwa_ := ((o_4 321 (by first | decide | omega))).trans hwa_
            replace hju_ := ((o_4 324 (by first | decide | omega))).trans hju_
            exact ih_8 (i + 1) (u ||| (1 <<< ((nI i) &&& 31))) sa910 ly911 va912 f_4 _ _ _ (by omega) (by omega) (hmo) (hss_) (hsp_) (hwi_) (hwa_) (hva_) (hju_) (fun j hj => ((o_4 j (by omega))).trans (o_3 j (by omega))) hP hS (lv_sub hl [2, 3, 1, 0] rfl)
    exact key8 (np + 1) 0 0 sa ly va f_2 _ _ _ (Nat.zero_le _) (by omega) (hmo) (hss_) (hsp_) (hwi_) (hwa_) (hva_) (hju_) (fun j _ => rfl) hP hS (lv_sub hl [4, 6, 1, 0] rfl)
  · refine lv_iconst (v := (-1)) hx hb dX11_whom_30 (by decide) ?_
    refine lv_goto (tgt := 45) hx hb dX11_whom_31 (by decide) ?_
    refine lv_istore (lv' := [(5, .int (-1)), (4, .int (fo o91)), (0, .ref (g 315)), (1, .int n), (2, .int q), (3, .int (-1))]) hx hb dX11_whom_45 hl (by decide) rfl (fun ls hl => ?_)
    refine lv_iload hx hb dX11_whom_47 (lv_at hl 0 rfl) ?_
    refine lv_iconst (v := (-1)) hx hb dX11_whom_49 (by decide) ?_
    refine lv_icmp_ne (tgt := 66) hx hb dX11_whom_50 (by decide) (fun c_50 => absurd (by decide) c_50) (fun c_50 => ?_)
    refine lv_iload_n hx hb dX11_whom_53 rfl (lv_at hl 3 rfl) ?_
    refine lv_if_ne (tgt := 64) hx hb dX11_whom_54 (by decide) (fun c_54 => ?_) (fun c_54 => ?_)
    · refine lv_iconst (v := 0) hx hb dX11_whom_64 (by decide) ?_
      exact W.iret (v := 0) hx hb hr (fun t ht hW => ⟨⟨_, f, rfl, (⟨sn, wn, sa, ly, sp, wi, wa, va, hmo, hsp_, hwi_, hwa_, hva_, fun j hj => rfl⟩), by rw [ht]; exact hP⟩, hS.F ht⟩) hS.2.2 dX11_whom_65
    · refine lv_aload_n hx hb dX11_whom_57 rfl (lv_at hl 2 rfl) ?_
      refine rd_calli (va_runV (As := []) (rest := []) ⟨hx, hb, hml, hown, hts⟩ (r_people l G g hg f ab2 be2 sn wn sa ly rdy (nI fd) ss np hmo hss_ (hst.h0)) (my_cwV hts ok_X11_people w_213 rfl rfl ⟨Nat.le_of_ble_eq_true rfl, Nat.le_of_ble_eq_true rfl⟩) ⟨bP.blind, va_recv hG.1 hP (ci := 10) (q0 := 315) rfl (wl_at (by decide) hmo), fun U hU hW => ⟨rfl, by rw [hU]; exact hP, kG.warm hW hG⟩⟩ rfl rfl hl.1 rfl (lv_room (Nat.le_of_ble_eq_true rfl)) dX11_whom_58 ⟨Nat.le_of_ble_eq_true rfl, Nat.le_of_ble_eq_true rfl⟩) (fun r hr9 => ?_)
      subst hr9
      refine lv_goto (tgt := 65) hx hb dX11_whom_61 (by decide) ?_
      exact W.iret (v := (1 <<< (nI np &&& 31)) - 1) hx hb hr (fun t ht hW => ⟨⟨_, f, rfl, (⟨sn, wn, sa, ly, sp, wi, wa, va, hmo, hsp_, hwi_, hwa_, hva_, fun j hj => rfl⟩), by rw [ht]; exact hP⟩, hS.F ht⟩) hS.2.2 dX11_whom_65
