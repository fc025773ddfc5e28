set_option maxHeartbeats 4000000 in
set_option maxRecDepth 100000 in
theorem r_strikesE (l : Launch) (G : gW) (g : Nat → Nat) (hg : gOK g) (f : Nat → va_E) (ab2 : Int64) (be2 : Int64) (sn : Int32) (wn : Int32) (sa : Int32) (ly : Int32) (rdy : Int32) (fd : Int32) (ss : Nat → Int32) (np : Nat) (nf : Nat) (nr : Nat) (na : Nat) (nt : Nat) (dr : Nat → Int32) (dn : Nat → Int32) (sl : Nat → Int32) (ax : Nat → Int32) (t : Nat) (to : Nat) (sd : Nat) (av : Nat) (d : Nat) (q4 : Nat) (opn : Nat → Nat) (lf : Int32) (hmo : f 315 = eO 10 [.ref (g 316), .ref (g 317), .ref (g 318), .long ab2, .long be2, .int sn, .ref (g 319), .ref (g 320), .int wn, .ref (g 321), .ref (g 322), .int sa, .int ly, .int rdy, .int fd, .ref (g 323), .ref (g 324), .ref (g 325), .ref (g 326), .ref (g 327), .ref (g 328), .ref (g 329), .ref (g 330), .ref (g 331), .ref (g 332)]) (hss_ : f 316 = eI G 2246 ss) (hdr_ : f 325 = eI G 264 dr) (hdn_ : f 326 = eI G 11 dn) (hsl_ : f 327 = eI G 330 sl) (hax_ : f 328 = eI G 44 ax) (hst : stOK ss np nf nr na nt) (ht0 : t < nt) (hto : to < 11) (hsd : sd < 2) (hav : av ≤ 4) (hax : ax (sd + 4 * to + 1) = nI av) (hdd : dn to = nI d) (hd24 : d ≤ 24) (hdr : ∀ k, k < d → dr (k + 24 * to) = nI (opn k) ∧ opn k < 30) (hq4 : q4 ≤ 4) (hs4 : ss (10 * t + 1552) = nI q4) (hsl : ∀ p, p < 30 → (sl (p + 30 * to) = 6 ↔ bt lf p = true)) : Met l yX11_strikes (wsT yX11_strikes cX11_strikes 9 (some .int)) ({ frames := 1, cells := 0, slots := 0, locals := 22 }) (bP G g f [.ref (g 315), .int (nI t), .int (nI to), .int (nI sd)]) (rQi (fun z9 => ∃ o9 : Option Nat, z9 = fo o9 ∧ (∀ z, o9 = some z → z < 30) ∧ (o9 = (if av = q4 then none else lkP opn (fun p => ss (30 * sd + 60 * t + p + 1646)) lf d)))) 0 0 fr0 := by
  refine Met.ofW (cc := cX11_strikes) (maxL := 9) (ret := (some .int)) (by decide) rfl ?_
  intro p e s m args below meth c s₁ B hml hv
  obtain ⟨rfl, hP, hG⟩ := hv
  have hx := B.exec
  have hb := B.bytes
  have hr := B.returns
  have hts := my_hts (atoms_spec (ws := wsT yX11_strikes cX11_strikes 9 (some .int)) B.pre)
  have hown : s.vm.findClass RX11 = some m.cls := findClass_of_methodNamed B.named
  have hlocks := B.notSynchronized
  have hl := lv_entry ([.ref (g 315), .int (nI t), .int (nI to), .int (nI sd)]) (n := 9) (Nat.le_of_ble_eq_true rfl)
  rw [lg_entry_eq]
  generalize (lg_sl ([.ref (g 315), .int (nI t), .int (nI to), .int (nI sd)]) ++ List.replicate (9 - (lg_sl ([.ref (g 315), .int (nI t), .int (nI to), .int (nI sd)])).length) Slot.unset).toArray = ls at hl ⊢
  have hl : lv_has ls 9 [(0, .ref (g 315)), (1, .int (nI t)), (2, .int (nI to)), (3, .int (nI sd))] := hl
  refine W_q8 (fun Q9 hQ9 => ?_)
  have hc0 := hst.c0
  have hc1 := hst.c1
  have hc2 := hst.c2
  have hc3 := hst.c3
  have hc4 := hst.c4
  refine lv_aload_n hx hb dX11_strikes_0 rfl (lv_at hl 0 rfl) ?_
  refine va_get (D := G.1) (ci := 10) (v := .ref (g 328)) (C := RX11) (T := TX11) (N := 25) hx hb hts inlX11 hown hG.1 hP 315 (wl_at (by decide) hmo) rfl 20 (by decide) (hts (.fieldLink RX11 48 "SwornListsModel" "abouts" "[I") w_124) (fun _ h9 => h9) rfl dX11_strikes_1 ?_
  refine lv_iconst (v := 4) hx hb dX11_strikes_4 (by decide) ?_
  refine lv_iload_n hx hb dX11_strikes_5 rfl (lv_at hl 2 rfl) ?_
  refine lv_imul hx hb dX11_strikes_6 ?_
  refine my_bei (v := nI (4 * to)) (pk_mul 4 to) ?_
  refine lv_iconst (v := 1) hx hb dX11_strikes_7 (by decide) ?_
  refine lv_iadd hx hb dX11_strikes_8 ?_
  refine my_bei (v := nI (4 * to + 1)) ((nI_add (4 * to) 1).trans (congrArg nI (show (4 * to) + 1 = 4 * to + 1 by omega))) ?_
  refine lv_iload_n hx hb dX11_strikes_9 rfl (lv_at hl 3 rfl) ?_
  refine lv_iadd hx hb dX11_strikes_10 ?_
  refine my_bei (v := nI (sd + 4 * to + 1)) ((nI_add (4 * to + 1) sd).trans (congrArg nI (show (4 * to + 1) + sd = sd + 4 * to + 1 by omega))) ?_
  refine va_iald hx hb hG.1 hP 328 0 (wl_at (by decide) hax_) rfl (vp_in_nI (by omega) (by decide)) dX11_strikes_11 ?_
  refine my_bei (v := ax (sd + 4 * to + 1)) (congrArg ax (nI_clamp (n := sd + 4 * to + 1) (by omega))) ?_
  refine my_bei (v := nI av) (hax) ?_
  refine lv_aload_n hx hb dX11_strikes_12 rfl (lv_at hl 0 rfl) ?_
  refine lv_iload_n hx hb dX11_strikes_13 rfl (lv_at hl 1 rfl) ?_
  refine lv_bipush (v := 6) hx hb dX11_strikes_14 (by decide) ?_
  refine rd_calli (va_runV (As := [.int (nI t), .int 6]) (rest := [.int (nI av)]) ⟨hx, hb, hml, hown, hts⟩ (r_ofTrial l G g hg f ab2 be2 sn wn sa ly rdy fd ss t 6 hmo hss_ (by first | assumption | omega | decide)) (my_cwV hts ok_X11_ofTrial w_532 rfl rfl ⟨Nat.le_of_ble_eq_true rfl, Nat.le_of_ble_eq_true rfl⟩) ⟨bP.blind, va_recv hG.1 hP (ci := 10) (q0 := 315) rfl (wl_at (by decide) hmo), fun U hU hW => ⟨rfl, by rw [hU]; exact hP, kG.warm hW hG⟩⟩ rfl rfl hl.1 rfl (lv_room (Nat.le_of_ble_eq_true rfl)) dX11_strikes_16 ⟨Nat.le_of_ble_eq_true rfl, Nat.le_of_ble_eq_true rfl⟩) (fun r hr9 => ?_)
  subst hr9
  refine my_bei (v := ss (10 * t + 1552)) (congrArg ss (show 10 * t + 6 + 1546 = 10 * t + 1552 by omega)) ?_
  refine my_bei (v := nI q4) (hs4) ?_
  refine lv_icmp_ne (tgt := 24) hx hb dX11_strikes_19 (by decide) (fun c_19 => ?_) (fun c_19 => ?_)
  · have k_19 : ¬ av = q4 := fun z9 => c_19 ((nI_eq (a := av) (b := q4) (by omega) (by omega)).mpr z9)
    refine lv_iconst (v := (-1)) hx hb dX11_strikes_24 (by decide) ?_
    refine lv_istore (lv' := [(4, .int (-1)), (0, .ref (g 315)), (1, .int (nI t)), (2, .int (nI to)), (3, .int (nI sd))]) hx hb dX11_strikes_25 hl (by decide) rfl (fun ls hl => ?_)
    refine lv_iconst (v := 0) hx hb dX11_strikes_27 (by decide) ?_
    refine lv_istore (lv' := [(5, .int 0), (4, .int (-1)), (0, .ref (g 315)), (1, .int (nI t)), (2, .int (nI to)), (3, .int (nI sd))]) hx hb dX11_strikes_28 hl (by decide) rfl (fun ls hl => ?_)
    refine lv_iconst (v := 0) hx hb dX11_strikes_30 (by decide) ?_
    refine lv_istore (lv' := [(6, .int 0), (5, .int 0), (4, .int (-1)), (0, .ref (g 315)), (1, .int (nI t)), (2, .int (nI to)), (3, .int (nI sd))]) hx hb dX11_strikes_31 hl (by decide) rfl (fun ls hl => ?_)
    have key1 : ∀ (n9_1 : Nat) (o1 : Option Nat) (w : Int32) (i : Nat) (ls : Array Slot), (i ≤ d) → (∀ z, o1 = some z → z < 30) → (lkP opn (fun p => ss (30 * sd + 60 * t + p + 1646)) lf i = o1) → (∀ z, o1 = some z → w = (fun p => ss (30 * sd + 60 * t + p + 1646)) z) → d - i < n9_1 → lv_has ls 9 [(0, .ref (g 315)), (1, .int (nI t)), (2, .int (nI to)), (3, .int (nI sd)), (4, .int (fo o1)), (5, .int w), (6, .int (nI i))] → W p l e (headSpec (wsT yX11_strikes cX11_strikes 9 (some .int)) ({ frames := 1, cells := 0, slots := 0, locals := 22 })).room s m ([.ref (g 315), .int (nI t), .int (nI to), .int (nI sd)] : List Value).toArray below meth c s.heap [] 0 0 Q9 (F0 m 33 ls []) := by
      intro n9_1
      induction n9_1 with
      | zero => intro o1 w i ls hi ho hB hw hn9_1; exact absurd hn9_1 (Nat.not_lt_zero _)
      | succ n9_1 ih_1 =>
        intro o1 w i ls hi ho hB hw hn9_1 hl
        refine lv_iload hx hb dX11_strikes_33 (lv_at hl 6 rfl) ?_
        refine lv_aload_n hx hb dX11_strikes_35 rfl (lv_at hl 0 rfl) ?_
        refine va_get (D := G.1) (ci := 10) (v := .ref (g 326)) (C := RX11) (T := TX11) (N := 25) hx hb hts inlX11 hown hG.1 hP 315 (wl_at (by decide) hmo) rfl 18 (by decide) (hts (.fieldLink RX11 42 "SwornListsModel" "drews" "[I") w_122) (fun _ h9 => h9) rfl dX11_strikes_36 ?_
        refine lv_iload_n hx hb dX11_strikes_39 rfl (lv_at hl 2 rfl) ?_
        refine va_iald hx hb hG.1 hP 326 0 (wl_at (by decide) hdn_) rfl (vp_in_nI (by omega) (by decide)) dX11_strikes_40 ?_
        refine my_bei (v := dn to) (congrArg dn (nI_clamp (n := to) (by omega))) ?_
        refine my_bei (v := nI d) (hdd) ?_
        refine lv_icmp_ge (tgt := 130) hx hb dX11_strikes_41 (by decide) (fun c_41 => ?_) (fun c_41 => ?_)
        · have k_41 : d ≤ i := (nI_leI (a := d) (b := i) (by omega) (by omega)).mp c_41
          refine lv_iload hx hb dX11_strikes_130 (lv_at hl 4 rfl) ?_
          refine W_q9 hQ9 ?_
          exact W.iret (v := fo o1) hx hb hr (fun _ hT9 _ => ⟨_, rfl, (⟨o1, rfl, ho, by rw [if_neg k_19, ← hB, show i = d by omega]⟩), hT9⟩) (fun _ h => absurd h List.not_mem_nil) dX11_strikes_132
        · have k_41 : ¬ d ≤ i := fun z9 => c_41 ((nI_leI (a := d) (b := i) (by omega) (by omega)).mpr z9)
          refine lv_aload_n hx hb dX11_strikes_44 rfl (lv_at hl 0 rfl) ?_
          refine va_get (D := G.1) (ci := 10) (v := .ref (g 325)) (C := RX11) (T := TX11) (N := 25) hx hb hts inlX11 hown hG.1 hP 315 (wl_at (by decide) hmo) rfl 17 (by decide) (hts (.fieldLink RX11 39 "SwornListsModel" "drew" "[I") w_121) (fun _ h9 => h9) rfl dX11_strikes_45 ?_
          refine lv_bipush (v := 24) hx hb dX11_strikes_48 (by decide) ?_
          refine lv_iload_n hx hb dX11_strikes_50 rfl (lv_at hl 2 rfl) ?_
          refine lv_imul hx hb dX11_strikes_51 ?_
          refine my_bei (v := nI (24 * to)) (pk_mul 24 to) ?_
          refine lv_iload hx hb dX11_strikes_52 (lv_at hl 6 rfl) ?_
          refine lv_iadd hx hb dX11_strikes_54 ?_
          refine my_bei (v := nI (i + 24 * to)) ((nI_add (24 * to) i).trans (congrArg nI (show (24 * to) + i = i + 24 * to by omega))) ?_
          obtain ⟨t1, et1⟩ : ∃ z, opn i = z := ⟨_, rfl⟩
          have ht1 : t1 < 30 := by rw [← et1]; exact (hdr i (by omega)).2
          have hod : lkP opn (fun p => ss (30 * sd + 60 * t + p + 1646)) lf (i + 1) = if bt lf t1 = true ∧ (fun p => ss (30 * sd + 60 * t + p + 1646)) t1 ≤ lkL (fun p => ss (30 * sd + 60 * t + p + 1646)) (lkP opn (fun p => ss (30 * sd + 60 * t + p + 1646)) lf i) then some t1 else lkP opn (fun p => ss (30 * sd + 60 * t + p + 1646)) lf i := by rw [← et1]; rfl
          refine va_iald hx hb hG.1 hP 325 0 (wl_at (by decide) hdr_) rfl (vp_in_nI (by omega) (by decide)) dX11_strikes_55 ?_
          refine my_bei (v := dr (i + 24 * to)) (congrArg dr (nI_clamp (n := i + 24 * to) (by omega))) ?_
          refine my_bei (v := nI t1) (by rw [← et1]; exact (hdr i (by omega)).1) ?_
          refine lv_istore (lv' := [(7, .int (nI t1)), (0, .ref (g 315)), (1, .int (nI t)), (2, .int (nI to)), (3, .int (nI sd)), (4, .int (fo o1)), (5, .int w), (6, .int (nI i))]) hx hb dX11_strikes_56 hl (by decide) rfl (fun ls hl => ?_)
          refine lv_aload_n hx hb dX11_strikes_58 rfl (lv_at hl 1 rfl) ?_
          refine va_get (D := G.1) (ci := 10) (v := .ref (g 316)) (C := RX11) (T := TX11) (N := 25) hx hb hts inlX11 hown hG.1 hP 315 (wl_at (by decide) hmo) rfl 0 (by decide) (hts (.fieldLink RX11 7 "SwornListsModel" "st" "[I") w_112) (fun _ h9 => h9) rfl dX11_strikes_59 ?_
          refine lv_sipush (v := 1646) hx hb dX11_strikes_62 (by decide) ?_
          refine lv_bipush (v := 60) hx hb dX11_strikes_65 (by decide) ?_
          refine lv_iload_n hx hb dX11_strikes_67 rfl (lv_at hl 2 rfl) ?_
          refine lv_imul hx hb dX11_strikes_68 ?_
          refine my_bei (v := nI (60 * t)) (pk_mul 60 t) ?_
          refine lv_iadd hx hb dX11_strikes_69 ?_
          refine my_bei (v := nI (60 * t + 1646)) ((nI_add 1646 (60 * t)).trans (congrArg nI (show 1646 + (60 * t) = 60 * t + 1646 by omega))) ?_
          refine lv_bipush (v := 30) hx hb dX11_strikes_70 (by decide) ?_
          refine lv_iload_n hx hb dX11_strikes_72 rfl (lv_at hl 4 rfl) ?_
          refine lv_imul hx hb dX11_strikes_73 ?_
          refine my_bei (v := nI (30 * sd)) (pk_mul 30 sd) ?_
          refine lv_iadd hx hb dX11_strikes_74 ?_
          refine my_bei (v := nI (30 * sd + 60 * t + 1646)) ((nI_add (60 * t + 1646) (30 * sd)).trans (congrArg nI (show (60 * t + 1646) + (30 * sd) = 30 * sd + 60 * t + 1646 by omega))) ?_
          refine lv_iload hx hb dX11_strikes_75 (lv_at hl 0 rfl) ?_
          refine lv_iadd hx hb dX11_strikes_77 ?_
          refine my_bei (v := nI (30 * sd + 60 * t + t1 + 1646)) ((nI_add (30 * sd + 60 * t + 1646) t1).trans (congrArg nI (show (30 * sd + 60 * t + 1646) + t1 = 30 * sd + 60 * t + t1 + 1646 by omega))) ?_
          refine va_iald hx hb hG.1 hP 316 0 (wl_at (by decide) hss_) rfl (vp_in_nI (by omega) (by decide)) dX11_strikes_78 ?_
          refine my_bei (v := ss (30 * sd + 60 * t + t1 + 1646)) (congrArg ss (nI_clamp (n := 30 * sd + 60 * t + t1 + 1646) (by omega))) ?_
          refine lv_istore (lv' := [(8, .int (ss (30 * sd + 60 * t + t1 + 1646))), (7, .int (nI t1)), (0, .ref (g 315)), (1, .int (nI t)), (2, .int (nI to)), (3, .int (nI sd)), (4, .int (fo o1)), (5, .int w), (6, .int (nI i))]) hx hb dX11_strikes_79 hl (by decide) rfl (fun ls hl => ?_)
          refine lv_aload_n hx hb dX11_strikes_81 rfl (lv_at hl 2 rfl) ?_
          refine va_get (D := G.1) (ci := 10) (v := .ref (g 327)) (C := RX11) (T := TX11) (N := 25) hx hb hts inlX11 hown hG.1 hP 315 (wl_at (by decide) hmo) rfl 19 (by decide) (hts (.fieldLink RX11 45 "SwornListsModel" "slips" "[I") w_123) (fun _ h9 => h9) rfl dX11_strikes_82 ?_
          refine lv_bipush (v := 30) hx hb dX11_strikes_85 (by decide) ?_
          refine lv_iload_n hx hb dX11_strikes_87 rfl (lv_at hl 4 rfl) ?_
          refine lv_imul hx hb dX11_strikes_88 ?_
          refine my_bei (v := nI (30 * to)) (pk_mul 30 to) ?_
          refine lv_iload hx hb dX11_strikes_89 (lv_at hl 1 rfl) ?_
          refine lv_iadd hx hb dX11_strikes_91 ?_
          refine my_bei (v := nI (t1 + 30 * to)) ((nI_add (30 * to) t1).trans (congrArg nI (show (30 * to) + t1 = t1 + 30 * to by omega))) ?_
          refine va_iald hx hb hG.1 hP 327 0 (wl_at (by decide) hsl_) rfl (vp_in_nI (by omega) (by decide)) dX11_strikes_92 ?_
          refine my_bei (v := sl (t1 + 30 * to)) (congrArg sl (nI_clamp (n := t1 + 30 * to) (by omega))) ?_
          refine lv_bipush (v := 6) hx hb dX11_strikes_93 (by decide) ?_
          refine lv_icmp_ne (tgt := 124) hx hb dX11_strikes_95 (by decide) (fun c_95 => ?_) (fun c_95 => ?_)
          · refine lv_iinc (v := nI (i + 1)) (lv' := [(6, .int (nI (i + 1))), (8, .int (ss (30 * sd + 60 * t + t1 + 1646))), (7, .int (nI t1)), (0, .ref (g 315)), (1, .int (nI t)), (2, .int (nI to)), (3, .int (nI sd)), (4, .int (fo o1)), (5, .int w)]) hx hb dX11_strikes_124 hl (k := 8) rfl (nI_add i 1) (by decide) rfl (fun ls hl => ?_)
            refine lv_goto (tgt := 33) hx hb dX11_strikes_127 (by decide) ?_
            exact ih_1 o1 w (i + 1) _ (by omega) (ho) (hod.trans ((if_neg (fun z => c_95 ((hsl t1 ht1).mpr z.1))).trans hB)) (hw) (by omega) (lv_sub hl [3, 4, 5, 6, 7, 8, 0] rfl)
          · refine lv_iload hx hb dX11_strikes_98 (lv_at hl 0 rfl) ?_
            refine lv_if_ge (tgt := 124) hx hb dX11_strikes_100 (by decide) (fun c_100 => ?_) (fun c_100 => ?_)
            · refine lv_iinc (v := nI (i + 1)) (lv' := [(6, .int (nI (i + 1))), (8, .int (ss (30 * sd + 60 * t + t1 + 1646))), (7, .int (nI t1)), (0, .ref (g 315)), (1, .int (nI t)), (2, .int (nI to)), (3, .int (nI sd)), (4, .int (fo o1)), (5, .int w)]) hx hb dX11_strikes_124 hl (k := 8) rfl (nI_add i 1) (by decide) rfl (fun ls hl => ?_)
              refine lv_goto (tgt := 33) hx hb dX11_strikes_127 (by decide) ?_
              exact ih_1 o1 w (i + 1) _ (by omega) (ho) (hod.trans ((if_neg (fun z => lk_pos (lk := (fun p => ss (30 * sd + 60 * t + p + 1646))) (p := t1) c_100 z.2)).trans hB)) (hw) (by omega) (lv_sub hl [3, 4, 5, 6, 7, 8, 0] rfl)
            · refine lv_iload hx hb dX11_strikes_103 (lv_at hl 6 rfl) ?_
              refine lv_iconst (v := (-1)) hx hb dX11_strikes_105 (by decide) ?_
              refine lv_icmp_eq (tgt := 116) hx hb dX11_strikes_106 (by decide) (fun c_106 => ?_) (fun c_106 => ?_)
              · refine lv_iload hx hb dX11_strikes_116 (lv_at hl 1 rfl) ?_
                refine lv_istore (lv' := [(4, .int (nI t1)), (8, .int (ss (30 * sd + 60 * t + t1 + 1646))), (7, .int (nI t1)), (0, .ref (g 315)), (1, .int (nI t)), (2, .int (nI to)), (3, .int (nI sd)), (5, .int w), (6, .int (nI i))]) hx hb dX11_strikes_118 hl (by decide) rfl (fun ls hl => ?_)
                refine lv_iload hx hb dX11_strikes_120 (lv_at hl 1 rfl) ?_
                refine lv_istore (lv' := [(5, .int (ss (30 * sd + 60 * t + t1 + 1646))), (4, .int (nI t1)), (8, .int (ss (30 * sd + 60 * t + t1 + 1646))), (7, .int (nI t1)), (0, .ref (g 315)), (1, .int (nI t)), (2, .int (nI to)), (3, .int (nI sd)), (6, .int (nI i))]) hx hb dX11_strikes_122 hl (by decide) rfl (fun ls hl => ?_)
                refine lv_iinc (v := nI (i + 1)) (lv' := [(6, .int (nI (i + 1))), (5, .int (ss (30 * sd + 60 * t + t1 + 1646))), (4, .int (nI t1)), (8, .int (ss (30 * sd + 60 * t + t1 + 1646))), (7, .int (nI t1)), (0, .ref (g 315)), (1, .int (nI t)), (2, .int (nI to)), (3, .int (nI sd))]) hx hb dX11_strikes_124 hl (k := 8) rfl (nI_add i 1) (by decide) rfl (fun ls hl => ?_)
                refine lv_goto (tgt := 33) hx hb dX11_strikes_127 (by decide) ?_
                exact ih_1 (some t1) (ss (30 * sd + 60 * t + t1 + 1646)) (i + 1) _ (by omega) (fun z hz => by cases hz; exact ht1) (hod.trans (if_pos ⟨(hsl t1 ht1).mp c_95, by rw [hB, fo_none (N := 30) (by omega) ho c_106]; exact i32_lt0.mp (Int32.not_le.mp c_100)⟩)) (fun z hz => by cases hz; rfl) (by omega) (lv_sub hl [5, 6, 7, 8, 2, 1, 0] rfl)
              · obtain ⟨b9, rfl⟩ : ∃ b, o1 = some b := by
                  cases o1 with
                  | none => exact absurd rfl c_106
                  | some z => exact ⟨z, rfl⟩
                have hb9 := ho b9 rfl
                refine lv_iload hx hb dX11_strikes_109 (lv_at hl 0 rfl) ?_
                refine lv_iload hx hb dX11_strikes_111 (lv_at hl 7 rfl) ?_
                refine lv_icmp_gt (tgt := 124) hx hb dX11_strikes_113 (by decide) (fun c_113 => ?_) (fun c_113 => ?_)
                · refine lv_iinc (v := nI (i + 1)) (lv' := [(6, .int (nI (i + 1))), (8, .int (ss (30 * sd + 60 * t + t1 + 1646))), (7, .int (nI t1)), (0, .ref (g 315)), (1, .int (nI t)), (2, .int (nI to)), (3, .int (nI sd)), (4, .int (nI b9)), (5, .int w)]) hx hb dX11_strikes_124 hl (k := 8) rfl (nI_add i 1) (by decide) rfl (fun ls hl => ?_)
                  refine lv_goto (tgt := 33) hx hb dX11_strikes_127 (by decide) ?_
                  exact ih_1 (some b9) w (i + 1) _ (by omega) (ho) (hod.trans ((if_neg (fun z => by rw [hB] at z; exact absurd z.2 (Int32.not_le.mpr (by rw [show lkL (fun p => ss (30 * sd + 60 * t + p + 1646)) (some b9) = w from (hw b9 rfl).symm]; exact c_113)))).trans hB)) (hw) (by omega) (lv_sub hl [3, 4, 5, 6, 7, 8, 0] rfl)
                · refine lv_iload hx hb dX11_strikes_116 (lv_at hl 1 rfl) ?_
                  refine lv_istore (lv' := [(4, .int (nI t1)), (8, .int (ss (30 * sd + 60 * t + t1 + 1646))), (7, .int (nI t1)), (0, .ref (g 315)), (1, .int (nI t)), (2, .int (nI to)), (3, .int (nI sd)), (5, .int w), (6, .int (nI i))]) hx hb dX11_strikes_118 hl (by decide) rfl (fun ls hl => ?_)
                  refine lv_iload hx hb dX11_strikes_120 (lv_at hl 1 rfl) ?_
                  refine lv_istore (lv' := [(5, .int (ss (30 * sd + 60 * t + t1 + 1646))), (4, .int (nI t1)), (8, .int (ss (30 * sd + 60 * t + t1 + 1646))), (7, .int (nI t1)), (0, .ref (g 315)), (1, .int (nI t)), (2, .int (nI to)), (3, .int (nI sd)), (6, .int (nI i))]) hx hb dX11_strikes_122 hl (by decide) rfl (fun ls hl => ?_)
                  refine lv_iinc (v := nI (i + 1)) (lv' := [(6, .int (nI (i + 1))), (5, .int (ss (30 * sd + 60 * t + t1 + 1646))), (4, .int (nI t1)), (8, .int (ss (30 * sd + 60 * t + t1 + 1646))), (7, .int (nI t1)), (0, .ref (g 315)), (1, .int (nI t)), (2, .int (nI to)), (3, .int (nI sd))]) hx hb dX11_strikes_124 hl (k := 8) rfl (nI_add i 1) (by decide) rfl (fun ls hl => ?_)
                  refine lv_goto (tgt := 33) hx hb dX11_strikes_127 (by decide) ?_
                  exact ih_1 (some t1) (ss (30 * sd + 60 * t + t1 + 1646)) (i + 1) _ (by omega) (fun z hz => by cases hz; exact ht1) (hod.trans (if_pos ⟨(hsl t1 ht1).mp c_95, by rw [hB, show lkL (fun p => ss (30 * sd + 60 * t + p + 1646)) (some b9) = w from (hw b9 rfl).symm]; exact Int32.not_lt.mp c_113⟩)) (fun z hz => by cases hz; rfl) (by omega) (lv_sub hl [5, 6, 7, 8, 2, 1, 0] rfl)
    exact key1 (d + 1) none 0 0 _ (Nat.zero_le _) (fun z hz => by cases hz) (rfl) (fun z hz => by cases hz) (by omega) (lv_sub hl [3, 4, 5, 6, 2, 1, 0] rfl)
  · have k_19 : av = q4 := (nI_eq (a := av) (b := q4) (by omega) (by omega)).mp c_19
    refine lv_iconst (v := (-1)) hx hb dX11_strikes_22 (by decide) ?_
    refine W_q9 hQ9 ?_
    exact W.iret (v := (-1)) hx hb hr (fun _ hT9 _ => ⟨_, rfl, (⟨none, rfl, fun z hz => (by cases hz), (if_pos k_19).symm⟩), hT9⟩) (fun _ h => absurd h List.not_mem_nil) dX11_strikes_23

