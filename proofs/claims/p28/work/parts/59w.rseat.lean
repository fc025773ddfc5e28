set_option maxHeartbeats 4000000 in
set_option maxRecDepth 100000 in
theorem r_seatsE (l : Launch) (G : gW) (g : Nat → Nat) (hg : gOK g) (f : Nat → va_E) (ab2 : Int64) (be2 : Int64) (sn : Int32) (wn : Int32) (sa : Int32) (ly : Int32) (rdy : Int32) (fd : Int32) (ss : Nat → Int32) (ju : Nat → Int32) (dr : Nat → Int32) (dn : Nat → Int32) (sl : Nat → Int32) (ax : Nat → Int32) (t : Nat) (to : Nat) (d : Nat) (ks : Nat) (opn : Nat → Nat) (n : Int32) (lf : Int32) (hmo : f 315 = eO 10 [.ref (g 316), .ref (g 317), .ref (g 318), .long ab2, .long be2, .int sn, .ref (g 319), .ref (g 320), .int wn, .ref (g 321), .ref (g 322), .int sa, .int ly, .int rdy, .int fd, .ref (g 323), .ref (g 324), .ref (g 325), .ref (g 326), .ref (g 327), .ref (g 328), .ref (g 329), .ref (g 330), .ref (g 331), .ref (g 332)]) (hss_ : f 316 = eI G 2246 ss) (hju_ : f 324 = eI G 11 ju) (hdr_ : f 325 = eI G 264 dr) (hdn_ : f 326 = eI G 11 dn) (hsl_ : f 327 = eI G 330 sl) (hax_ : f 328 = eI G 44 ax) (ht0 : t < 10) (hto : to < 11) (hdd : dn to = nI d) (hd24 : d ≤ 24) (hdr : ∀ k, k < d → dr (k + 24 * to) = nI (opn k) ∧ opn k < 30) (hk2 : ss (10 * t + 1548) = nI ks) (hks : ks ≤ 8) (hsl : ∀ p, p < 30 → (sl (p + 30 * to) = 6 ↔ bt lf p = true)) : Met l yX11_seats (wsT yX11_seats cX11_seats 10 none) ({ frames := 1, cells := 0, slots := 0, locals := 22 }) (bP G g f [.ref (g 315), .int (nI t), .int (nI to), .int n]) (bQv G g (fun (f' : Nat → va_E) => ∃ ju9 : Nat → Int32, ∃ sl9 : Nat → Int32, ∃ ax9 : Nat → Int32, f' 324 = eI G 11 ju9 ∧ f' 327 = eI G 330 sl9 ∧ f' 328 = eI G 44 ax9 ∧ (ju9 to = (if (paF n ks (seF opn lf ks d) 30).2 < ks then 0 else (paF n ks (seF opn lf ks d) 30).1)) ∧ (∀ k, k ≠ to → ju9 k = ju k) ∧ (∀ p, p < 30 → sl9 (p + 30 * to) = (if (paF n ks (seF opn lf ks d) 30).2 < ks then sl (p + 30 * to) else (if bt (seF opn lf ks d).1 p = true then 5 else if bt (paF n ks (0, (seF opn lf ks d).2) 30).1 p = true then 7 else sl (p + 30 * to)))) ∧ (∀ k, (k < 30 * to ∨ 30 + 30 * to ≤ k) → sl9 k = sl k) ∧ ((paF n ks (seF opn lf ks d) 30).2 < ks → ax9 = ax) ∧ (¬ (paF n ks (seF opn lf ks d) 30).2 < ks → ax9 (4 * to) = nI (cnt (paF n ks (0, (seF opn lf ks d).2) 30).1 32)) ∧ (∀ k, k ≠ 4 * to → ax9 k = ax k) ∧ ∀ j, (j ≠ 324 ∧ j ≠ 327 ∧ j ≠ 328) → f' j = f j)) 0 0 (gA g) := by
  refine Met.ofW (cc := cX11_seats) (maxL := 10) (ret := none) (by decide) rfl ?_
  intro p e s m args below meth c s₁ B hml hv
  obtain ⟨rfl, hP, hG⟩ := hv
  have hx := B.exec
  have hb := B.bytes
  have hr := B.returns
  have hts := my_hts (atoms_spec (ws := wsT yX11_seats cX11_seats 10 none) B.pre)
  have hown : s.vm.findClass RX11 = some m.cls := findClass_of_methodNamed B.named
  have hlocks := B.notSynchronized
  have hS : va_S (gA g) s.heap s.heap [] := va_S.rf
  have hl := lv_entry ([.ref (g 315), .int (nI t), .int (nI to), .int n]) (n := 10) (Nat.le_of_ble_eq_true rfl)
  rw [lg_entry_eq]
  generalize (lg_sl ([.ref (g 315), .int (nI t), .int (nI to), .int n]) ++ List.replicate (10 - (lg_sl ([.ref (g 315), .int (nI t), .int (nI to), .int n])).length) Slot.unset).toArray = ls at hl ⊢
  have hl : lv_has ls 10 [(0, .ref (g 315)), (1, .int (nI t)), (2, .int (nI to)), (3, .int n)] := hl
  refine W_q8 (fun Q9 hQ9 => ?_)
  refine lv_aload_n hx hb dX11_seats_0 rfl (lv_at hl 0 rfl) ?_
  refine lv_iload_n hx hb dX11_seats_1 rfl (lv_at hl 1 rfl) ?_
  refine lv_iconst (v := 2) hx hb dX11_seats_2 (by decide) ?_
  refine rd_calli (va_runV (As := [.int (nI t), .int 2]) (rest := []) ⟨hx, hb, hml, hown, hts⟩ (r_ofTrial l G g hg f ab2 be2 sn wn sa ly rdy fd ss t 2 hmo hss_ (by first | assumption | omega | decide)) (my_cwV hts ok_X11_ofTrial w_532 rfl rfl ⟨Nat.le_of_ble_eq_true rfl, Nat.le_of_ble_eq_true rfl⟩) ⟨bP.blind, va_recv hG.1 hP (ci := 10) (q0 := 315) rfl (wl_at (by decide) hmo), fun U hU hW => ⟨rfl, by rw [hU]; exact hP, kG.warm hW hG⟩⟩ rfl rfl hl.1 rfl (lv_room (Nat.le_of_ble_eq_true rfl)) dX11_seats_3 ⟨Nat.le_of_ble_eq_true rfl, Nat.le_of_ble_eq_true rfl⟩) (fun r hr9 => ?_)
  subst hr9
  refine my_bei (v := ss (10 * t + 1548)) (congrArg ss (show 10 * t + 2 + 1546 = 10 * t + 1548 by omega)) ?_
  refine my_bei (v := nI ks) (hk2) ?_
  refine lv_istore (lv' := [(4, .int (nI ks)), (0, .ref (g 315)), (1, .int (nI t)), (2, .int (nI to)), (3, .int n)]) hx hb dX11_seats_6 hl (by decide) rfl (fun ls hl => ?_)
  refine lv_iconst (v := 0) hx hb dX11_seats_8 (by decide) ?_
  refine lv_istore (lv' := [(5, .int 0), (4, .int (nI ks)), (0, .ref (g 315)), (1, .int (nI t)), (2, .int (nI to)), (3, .int n)]) hx hb dX11_seats_9 hl (by decide) rfl (fun ls hl => ?_)
  refine lv_iconst (v := 0) hx hb dX11_seats_11 (by decide) ?_
  refine lv_istore (lv' := [(6, .int 0), (5, .int 0), (4, .int (nI ks)), (0, .ref (g 315)), (1, .int (nI t)), (2, .int (nI to)), (3, .int n)]) hx hb dX11_seats_12 hl (by decide) rfl (fun ls hl => ?_)
  refine lv_iconst (v := 0) hx hb dX11_seats_14 (by decide) ?_
  refine lv_istore (lv' := [(7, .int 0), (6, .int 0), (5, .int 0), (4, .int (nI ks)), (0, .ref (g 315)), (1, .int (nI t)), (2, .int (nI to)), (3, .int n)]) hx hb dX11_seats_15 hl (by decide) rfl (fun ls hl => ?_)
  have key1 : ∀ (n9_1 : Nat) (i : Nat) (u : Int32) (w : Nat) (f_1 : Nat → va_E) (H : Heap) (locs : List Loc) (ls : Array Slot), (i ≤ d) → (seF opn lf ks i = (u, w)) → (w ≤ ks) → d - i < n9_1 → f_1 315 = eO 10 [.ref (g 316), .ref (g 317), .ref (g 318), .long ab2, .long be2, .int sn, .ref (g 319), .ref (g 320), .int wn, .ref (g 321), .ref (g 322), .int sa, .int ly, .int rdy, .int fd, .ref (g 323), .ref (g 324), .ref (g 325), .ref (g 326), .ref (g 327), .ref (g 328), .ref (g 329), .ref (g 330), .ref (g 331), .ref (g 332)] → f_1 316 = eI G 2246 ss → f_1 324 = eI G 11 ju → f_1 325 = eI G 264 dr → f_1 326 = eI G 11 dn → f_1 327 = eI G 330 sl → f_1 328 = eI G 44 ax → (∀ j, (j < 333 ∨ 333 ≤ j) → f_1 j = f j) → va_P G.1 vwCl (wl g f_1) H → va_S (gA g) s.heap H locs → lv_has ls 10 [(0, .ref (g 315)), (1, .int (nI t)), (2, .int (nI to)), (3, .int n), (4, .int (nI ks)), (5, .int u), (6, .int (nI w)), (7, .int (nI i))] → W p l e (headSpec (wsT yX11_seats cX11_seats 10 none) ({ frames := 1, cells := 0, slots := 0, locals := 22 })).room s m ([.ref (g 315), .int (nI t), .int (nI to), .int n] : List Value).toArray below meth c H locs 0 0 Q9 (F0 m 17 ls []) := by
    intro n9_1
    induction n9_1 with
    | zero => intro i u w f_1 H locs ls hi hse hwk hn9_1; exact absurd hn9_1 (Nat.not_lt_zero _)
    | succ n9_1 ih_1 =>
      intro i u w f_1 H locs ls hi hse hwk hn9_1 hmo hss_ hju_ hdr_ hdn_ hsl_ hax_ o_1 hP hS hl
      refine lv_iload hx hb dX11_seats_17 (lv_at hl 7 rfl) ?_
      refine lv_aload_n hx hb dX11_seats_19 rfl (lv_at hl 0 rfl) ?_
      refine va_get (D := G.1) (ci := 10) (v := .ref (g 326)) (C := RX11) (T := TX11) (N := 25) hx hb hts inlX11 hown hG.1 hP 315 (wl_at (by decide) hmo) rfl 18 (by decide) (hts (.fieldLink RX11 42 "SwornListsModel" "drews" "[I") w_122) (fun _ h9 => h9) rfl dX11_seats_20 ?_
      refine lv_iload_n hx hb dX11_seats_23 rfl (lv_at hl 2 rfl) ?_
      refine va_iald hx hb hG.1 hP 326 0 (wl_at (by decide) hdn_) rfl (vp_in_nI (by omega) (by decide)) dX11_seats_24 ?_
      refine my_bei (v := dn to) (congrArg dn (nI_clamp (n := to) (by omega))) ?_
      refine my_bei (v := nI d) (hdd) ?_
      refine lv_icmp_ge (tgt := 84) hx hb dX11_seats_25 (by decide) (fun c_25 => ?_) (fun c_25 => ?_)
      · have k_25 : d ≤ i := (nI_leI (a := d) (b := i) (by omega) (by omega)).mp c_25
        have hsd : seF opn lf ks d = (u, w) := by rw [← hse, show i = d by omega]
        refine lv_iconst (v := 0) hx hb dX11_seats_84 (by decide) ?_
        refine lv_istore (lv' := [(7, .int 0), (0, .ref (g 315)), (1, .int (nI t)), (2, .int (nI to)), (3, .int n), (4, .int (nI ks)), (5, .int u), (6, .int (nI w))]) hx hb dX11_seats_85 hl (by decide) rfl (fun ls hl => ?_)
        refine lv_iconst (v := 0) hx hb dX11_seats_87 (by decide) ?_
        refine lv_istore (lv' := [(8, .int 0), (7, .int 0), (0, .ref (g 315)), (1, .int (nI t)), (2, .int (nI to)), (3, .int n), (4, .int (nI ks)), (5, .int u), (6, .int (nI w))]) hx hb dX11_seats_88 hl (by decide) rfl (fun ls hl => ?_)
        have key2 : ∀ (n9_2 : Nat) (i2 : Nat) (u2 : Int32) (w2 : Nat) (f_2 : Nat → va_E) (H : Heap) (locs : List Loc) (ls : Array Slot), (i2 ≤ 30) → (paF n ks (0, w) i2 = (u2, w2)) → (w2 ≤ ks) → 30 - i2 < n9_2 → f_2 315 = eO 10 [.ref (g 316), .ref (g 317), .ref (g 318), .long ab2, .long be2, .int sn, .ref (g 319), .ref (g 320), .int wn, .ref (g 321), .ref (g 322), .int sa, .int ly, .int rdy, .int fd, .ref (g 323), .ref (g 324), .ref (g 325), .ref (g 326), .ref (g 327), .ref (g 328), .ref (g 329), .ref (g 330), .ref (g 331), .ref (g 332)] → f_2 316 = eI G 2246 ss → f_2 324 = eI G 11 ju → f_2 325 = eI G 264 dr → f_2 326 = eI G 11 dn → f_2 327 = eI G 330 sl → f_2 328 = eI G 44 ax → (∀ j, (j < 333 ∨ 333 ≤ j) → f_2 j = f_1 j) → va_P G.1 vwCl (wl g f_2) H → va_S (gA g) s.heap H locs → lv_has ls 10 [(0, .ref (g 315)), (1, .int (nI t)), (2, .int (nI to)), (3, .int n), (4, .int (nI ks)), (5, .int u), (6, .int (nI w2)), (7, .int u2), (8, .int (nI i2))] → W p l e (headSpec (wsT yX11_seats cX11_seats 10 none) ({ frames := 1, cells := 0, slots := 0, locals := 22 })).room s m ([.ref (g 315), .int (nI t), .int (nI to), .int n] : List Value).toArray below meth c H locs 0 0 Q9 (F0 m 90 ls []) := by
          intro n9_2
          induction n9_2 with
          | zero => intro i2 u2 w2 f_2 H locs ls hi2 hpa hwk2 hn9_2; exact absurd hn9_2 (Nat.not_lt_zero _)
          | succ n9_2 ih_2 =>
            intro i2 u2 w2 f_2 H locs ls hi2 hpa hwk2 hn9_2 hmo hss_ hju_ hdr_ hdn_ hsl_ hax_ o_2 hP hS hl
            refine lv_iload hx hb dX11_seats_90 (lv_at hl 8 rfl) ?_
            refine lv_bipush (v := 30) hx hb dX11_seats_92 (by decide) ?_
            refine lv_icmp_ge (tgt := 132) hx hb dX11_seats_94 (by decide) (fun c_94 => ?_) (fun c_94 => ?_)
            · have k_94 : 30 ≤ i2 := (nI_leI (a := 30) (b := i2) (by omega) (by omega)).mp c_94
              have hpd : paF n ks (0, w) 30 = (u2, w2) := by rw [← hpa, show i2 = 30 by omega]
              refine lv_iload hx hb dX11_seats_132 (lv_at hl 6 rfl) ?_
              refine lv_iload hx hb dX11_seats_134 (lv_at hl 4 rfl) ?_
              refine lv_icmp_ge (tgt := 147) hx hb dX11_seats_136 (by decide) (fun c_136 => ?_) (fun c_136 => ?_)
              · have k_136 : ks ≤ w2 := (nI_leI (a := ks) (b := w2) (by omega) (by omega)).mp c_136
                refine lv_aload_n hx hb dX11_seats_147 rfl (lv_at hl 0 rfl) ?_
                refine va_get (D := G.1) (ci := 10) (v := .ref (g 324)) (C := RX11) (T := TX11) (N := 25) hx hb hts inlX11 hown hG.1 hP 315 (wl_at (by decide) hmo) rfl 16 (by decide) (hts (.fieldLink RX11 36 "SwornListsModel" "juries" "[I") w_120) (fun _ h9 => h9) rfl dX11_seats_148 ?_
                refine lv_iload_n hx hb dX11_seats_151 rfl (lv_at hl 2 rfl) ?_
                refine lv_iload hx hb dX11_seats_152 (lv_at hl 5 rfl) ?_
                refine lv_iload hx hb dX11_seats_154 (lv_at hl 7 rfl) ?_
                refine lv_ior hx hb dX11_seats_156 ?_
                refine va_iast hx hb hG.1 hP (wl_D hg f_2) hS 324 0 (wl_at (by decide) hju_) rfl (vp_in_nI (by omega) (by decide)) dX11_seats_157 (fun H locs hP _ hS => ?_)
                have hP := (congrArg (fun z9 => va_P G.1 vwCl ((wl g f_2).set 324 (g 324, eI G 11 ((upd ju z9 (u ||| u2))))) H) (show Int32.toNatClampNeg (nI to) = to from nI_clamp (by omega))).mp hP
                obtain ⟨f_3, hP, e_3, o_3⟩ := b_put (by decide) hP
                have hju_ : f_3 324 = eI G 11 (upd ju to (u ||| u2)) := e_3
                refine lv_aload_n hx hb dX11_seats_158 rfl (lv_at hl 0 rfl) ?_
                replace hmo := ((o_3 315 (by decide))).trans hmo
                refine va_get (D := G.1) (ci := 10) (v := .ref (g 328)) (C := RX11) (T := TX11) (N := 25) hx hb hts inlX11 hown hG.1 hP 315 (wl_at (by decide) hmo) rfl 20 (by decide) (hts (.fieldLink RX11 48 "SwornListsModel" "abouts" "[I") w_124) (fun _ h9 => h9) rfl dX11_seats_159 ?_
                refine lv_iconst (v := 4) hx hb dX11_seats_162 (by decide) ?_
                refine lv_iload_n hx hb dX11_seats_163 rfl (lv_at hl 2 rfl) ?_
                refine lv_imul hx hb dX11_seats_164 ?_
                refine my_bei (v := nI (4 * to)) (pk_mul 4 to) ?_
                refine lv_iload hx hb dX11_seats_165 (lv_at hl 7 rfl) ?_
                refine rd_calli (va_runS (As := [.int u2]) (rest := [.int (nI (4 * to)), .ref (g 328)]) ⟨hx, hb, hml, hown, hts⟩ (r_sizeOf l G g hg f_3 u2  ) (my_cwS hts ok_X11_sizeOf w_584 rfl rfl ⟨Nat.le_of_ble_eq_true rfl, Nat.le_of_ble_eq_true rfl⟩) ⟨bP.blind, fun U hU hW => ⟨rfl, by rw [hU]; exact hP, kG.warm hW hG⟩⟩ rfl rfl hl.1 rfl (lv_room (Nat.le_of_ble_eq_true rfl)) dX11_seats_167 ⟨Nat.le_of_ble_eq_true rfl, Nat.le_of_ble_eq_true rfl⟩) (fun r hr9 => ?_)
                obtain ⟨c93, rfl, hx_4_0, hx_4_1⟩ := hr9
                have hsz := size_ok (x := u2) (by have h9 := paF_hi (pas := n) (ks := ks) (c := w) 30 (by omega); rw [hpd] at h9; exact h9) hx_4_1
                replace hax_ := ((o_3 328 (by decide))).trans hax_
                refine va_iast hx hb hG.1 hP (wl_D hg f_3) hS 328 0 (wl_at (by decide) hax_) rfl (vp_in_nI (by omega) (by decide)) dX11_seats_170 (fun H locs hP _ hS => ?_)
                have hP := (congrArg (fun z9 => va_P G.1 vwCl ((wl g f_3).set 328 (g 328, eI G 44 ((upd ax z9 (nI c93))))) H) (show Int32.toNatClampNeg (nI (4 * to)) = 4 * to from nI_clamp (by omega))).mp hP
                obtain ⟨f_5, hP, e_5, o_5⟩ := b_put (by decide) hP
                have hax_ : f_5 328 = eI G 44 (upd ax (4 * to) (nI c93)) := e_5
                refine lv_iconst (v := 0) hx hb dX11_seats_171 (by decide) ?_
                refine lv_istore (lv' := [(8, .int 0), (0, .ref (g 315)), (1, .int (nI t)), (2, .int (nI to)), (3, .int n), (4, .int (nI ks)), (5, .int u), (6, .int (nI w2)), (7, .int u2)]) hx hb dX11_seats_172 hl (by decide) rfl (fun ls hl => ?_)
                replace hmo := ((o_5 315 (by decide))).trans hmo
                replace hss_ := ((o_5 316 (by decide)).trans ((o_3 316 (by decide)))).trans hss_
                replace hju_ := ((o_5 324 (by decide))).trans hju_
                replace hdr_ := ((o_5 325 (by decide)).trans ((o_3 325 (by decide)))).trans hdr_
                replace hdn_ := ((o_5 326 (by decide)).trans ((o_3 326 (by decide)))).trans hdn_
                replace hsl_ := ((o_5 327 (by decide)).trans ((o_3 327 (by decide)))).trans hsl_
                have key4 : ∀ (n9_4 : Nat) (i3 : Nat) (sl3 : Nat → Int32) (f_6 : Nat → va_E) (H : Heap) (locs : List Loc) (ls : Array Slot), (i3 ≤ 30) → (∀ p, p < i3 → sl3 (p + 30 * to) = (if bt u p = true then 5 else if bt u2 p = true then 7 else sl (p + 30 * to))) → (∀ k, (k < 30 * to ∨ i3 + 30 * to ≤ k) → sl3 k = sl k) → 30 - i3 < n9_4 → f_6 315 = eO 10 [.ref (g 316), .ref (g 317), .ref (g 318), .long ab2, .long be2, .int sn, .ref (g 319), .ref (g 320), .int wn, .ref (g 321), .ref (g 322), .int sa, .int ly, .int rdy, .int fd, .ref (g 323), .ref (g 324), .ref (g 325), .ref (g 326), .ref (g 327), .ref (g 328), .ref (g 329), .ref (g 330), .ref (g 331), .ref (g 332)] → f_6 316 = eI G 2246 ss → f_6 324 = eI G 11 (upd ju to (u ||| u2)) → f_6 325 = eI G 264 dr → f_6 326 = eI G 11 dn → f_6 327 = eI G 330 sl3 → f_6 328 = eI G 44 (upd ax (4 * to) (nI c93)) → (∀ j, j ≠ 327 → f_6 j = f_5 j) → va_P G.1 vwCl (wl g f_6) H → va_S (gA g) s.heap H locs → lv_has ls 10 [(0, .ref (g 315)), (2, .int (nI to)), (5, .int u), (7, .int u2), (8, .int (nI i3))] → W p l e (headSpec (wsT yX11_seats cX11_seats 10 none) ({ frames := 1, cells := 0, slots := 0, locals := 22 })).room s m ([.ref (g 315), .int (nI t), .int (nI to), .int n] : List Value).toArray below meth c H locs 0 0 Q9 (F0 m 174 ls []) := by
                  intro n9_4
                  induction n9_4 with
                  | zero => intro i3 sl3 f_6 H locs ls hi3 h3s h3o hn9_4; exact absurd hn9_4 (Nat.not_lt_zero _)
                  | succ n9_4 ih_4 =>
                    intro i3 sl3 f_6 H locs ls hi3 h3s h3o hn9_4 hmo hss_ hju_ hdr_ hdn_ hsl_ hax_ o_6 hP hS hl
                    refine lv_iload hx hb dX11_seats_174 (lv_at hl 4 rfl) ?_
                    refine lv_bipush (v := 30) hx hb dX11_seats_176 (by decide) ?_
                    refine lv_icmp_ge (tgt := 246) hx hb dX11_seats_178 (by decide) (fun c_178 => ?_) (fun c_178 => ?_)
                    · have k_178 : 30 ≤ i3 := (nI_leI (a := 30) (b := i3) (by omega) (by omega)).mp c_178
                      have hwf : paF n ks (seF opn lf ks d) 30 = (u ||| u2, w2) := by rw [hsd, paF_or, hpd]
                      refine W_q9 hQ9 ?_
                      exact W.vret hx hb hr (fun _ hT9 _ => ⟨⟨f_6, rfl, (⟨(upd ju to (u ||| u2)), sl3, (upd ax (4 * to) (nI c93)), hju_, hsl_, hax_, by rw [hwf, if_neg (show ¬ w2 < ks by omega)]; exact pk_us, fun k hk => pk_un hk, fun p hp => by rw [hwf, if_neg (show ¬ w2 < ks by omega), hsd, hpd]; exact h3s p (by omega), fun k hk => h3o k (by omega), fun z9 => absurd z9 (by rw [hwf]; show ¬ w2 < ks; omega), fun _ => by rw [hsd, hpd, pk_us, ← hsz], fun k hk => pk_un hk, fun j hj => (((((o_6 j (by omega))).trans (o_5 j (by omega))).trans (o_3 j (by omega))).trans (o_2 j (by omega))).trans (o_1 j (by omega))⟩), by rw [hT9]; exact hP⟩, hS.F hT9⟩) hS.2.2 dX11_seats_246
                    · have k_178 : ¬ 30 ≤ i3 := fun z9 => c_178 ((nI_leI (a := 30) (b := i3) (by omega) (by omega)).mpr z9)
                      refine lv_aload_n hx hb dX11_seats_181 rfl (lv_at hl 0 rfl) ?_
                      refine va_get (D := G.1) (ci := 10) (v := .ref (g 327)) (C := RX11) (T := TX11) (N := 25) hx hb hts inlX11 hown hG.1 hP 315 (wl_at (by decide) hmo) rfl 19 (by decide) (hts (.fieldLink RX11 45 "SwornListsModel" "slips" "[I") w_123) (fun _ h9 => h9) rfl dX11_seats_182 ?_
                      refine lv_bipush (v := 30) hx hb dX11_seats_185 (by decide) ?_
                      refine lv_iload_n hx hb dX11_seats_187 rfl (lv_at hl 1 rfl) ?_
                      refine lv_imul hx hb dX11_seats_188 ?_
                      refine my_bei (v := nI (30 * to)) (pk_mul 30 to) ?_
                      refine lv_iload hx hb dX11_seats_189 (lv_at hl 4 rfl) ?_
                      refine lv_iadd hx hb dX11_seats_191 ?_
                      refine my_bei (v := nI (i3 + 30 * to)) ((nI_add (30 * to) i3).trans (congrArg nI (show (30 * to) + i3 = i3 + 30 * to by omega))) ?_
                      refine va_iald hx hb hG.1 hP 327 0 (wl_at (by decide) hsl_) rfl (vp_in_nI (by omega) (by decide)) dX11_seats_192 ?_
                      refine my_bei (v := sl3 (i3 + 30 * to)) (congrArg sl3 (nI_clamp (n := i3 + 30 * to) (by omega))) ?_
                      refine lv_istore (lv' := [(9, .int (sl3 (i3 + 30 * to))), (0, .ref (g 315)), (2, .int (nI to)), (5, .int u), (7, .int u2), (8, .int (nI i3))]) hx hb dX11_seats_193 hl (by decide) rfl (fun ls hl => ?_)
                      refine lv_aload_n hx hb dX11_seats_195 rfl (lv_at hl 1 rfl) ?_
                      refine va_get (D := G.1) (ci := 10) (v := .ref (g 327)) (C := RX11) (T := TX11) (N := 25) hx hb hts inlX11 hown hG.1 hP 315 (wl_at (by decide) hmo) rfl 19 (by decide) (hts (.fieldLink RX11 45 "SwornListsModel" "slips" "[I") w_123) (fun _ h9 => h9) rfl dX11_seats_196 ?_
                      refine lv_bipush (v := 30) hx hb dX11_seats_199 (by decide) ?_
                      refine lv_iload_n hx hb dX11_seats_201 rfl (lv_at hl 2 rfl) ?_
                      refine lv_imul hx hb dX11_seats_202 ?_
                      refine my_bei (v := nI (30 * to)) (pk_mul 30 to) ?_
                      refine lv_iload hx hb dX11_seats_203 (lv_at hl 5 rfl) ?_
                      refine lv_iadd hx hb dX11_seats_205 ?_
                      refine my_bei (v := nI (i3 + 30 * to)) ((nI_add (30 * to) i3).trans (congrArg nI (show (30 * to) + i3 = i3 + 30 * to by omega))) ?_
                      refine lv_iload hx hb dX11_seats_206 (lv_at hl 3 rfl) ?_
                      refine lv_iload hx hb dX11_seats_208 (lv_at hl 5 rfl) ?_
                      refine lv_ishr hx hb dX11_seats_210 ?_
                      refine lv_iconst (v := 1) hx hb dX11_seats_211 (by decide) ?_
                      refine lv_iand hx hb dX11_seats_212 ?_
                      refine lv_iconst (v := 1) hx hb dX11_seats_213 (by decide) ?_
                      refine lv_icmp_ne (tgt := 221) hx hb dX11_seats_214 (by decide) (fun c_214 => ?_) (fun c_214 => ?_)
                      · refine lv_iload hx hb dX11_seats_221 (lv_at hl 4 rfl) ?_
                        refine lv_iload hx hb dX11_seats_223 (lv_at hl 5 rfl) ?_
                        refine lv_ishr hx hb dX11_seats_225 ?_
                        refine lv_iconst (v := 1) hx hb dX11_seats_226 (by decide) ?_
                        refine lv_iand hx hb dX11_seats_227 ?_
                        refine lv_iconst (v := 1) hx hb dX11_seats_228 (by decide) ?_
                        refine lv_icmp_ne (tgt := 237) hx hb dX11_seats_229 (by decide) (fun c_229 => ?_) (fun c_229 => ?_)
                        · refine lv_iload hx hb dX11_seats_237 (lv_at hl 0 rfl) ?_
                          refine va_iast hx hb hG.1 hP (wl_D hg f_6) hS 327 0 (wl_at (by decide) hsl_) rfl (vp_in_nI (by omega) (by decide)) dX11_seats_239 (fun H locs hP _ hS => ?_)
                          have hP := (congrArg (fun z9 => va_P G.1 vwCl ((wl g f_6).set 327 (g 327, eI G 330 ((upd sl3 z9 (sl3 (i3 + 30 * to)))))) H) (show Int32.toNatClampNeg (nI (i3 + 30 * to)) = i3 + 30 * to from nI_clamp (by omega))).mp hP
                          obtain ⟨f_7, hP, e_7, o_7⟩ := b_put (by decide) hP
                          have hsl_ : f_7 327 = eI G 330 (upd sl3 (i3 + 30 * to) (sl3 (i3 + 30 * to))) := e_7
                          refine lv_iinc (v := nI (i3 + 1)) (lv' := [(8, .int (nI (i3 + 1))), (9, .int (sl3 (i3 + 30 * to))), (0, .ref (g 315)), (2, .int (nI to)), (5, .int u), (7, .int u2)]) hx hb dX11_seats_240 hl (k := 5) rfl (nI_add i3 1) (by decide) rfl (fun ls hl => ?_)
                          refine lv_goto (tgt := 174) hx hb dX11_seats_243 (by decide) ?_
                          replace hmo := ((o_7 315 (by decide))).trans hmo
                          replace hss_ := ((o_7 316 (by decide))).trans hss_
                          replace hju_ := ((o_7 324 (by decide))).trans hju_
                          replace hdr_ := ((o_7 325 (by decide))).trans hdr_
                          replace hdn_ := ((o_7 326 (by decide))).trans hdn_
                          replace hax_ := ((o_7 328 (by decide))).trans hax_
                          exact ih_4 (i3 + 1) (upd sl3 (i3 + 30 * to) (sl3 (i3 + 30 * to))) f_7 _ _ _ (by omega) (fun p hp => if e9 : p = i3 then (by rw [e9, pk_us]; exact ((if_neg (fun z => c_214 ((sr_iff (by omega)).mpr z))).trans ((if_neg (fun z => c_229 ((sr_iff (by omega)).mpr z))).trans (h3o (i3 + 30 * to) (by omega)).symm)).symm) else (pk_un (by omega)).trans (h3s p (by omega))) (fun k hk => (pk_un (by omega)).trans (h3o k (by omega))) (by omega) (hmo) (hss_) (hju_) (hdr_) (hdn_) (hsl_) (hax_) (fun j hj => ((o_7 j (by omega))).trans (o_6 j (by omega))) hP hS (lv_sub hl [2, 3, 4, 5, 0] rfl)
                        · refine lv_bipush (v := 7) hx hb dX11_seats_232 (by decide) ?_
                          refine lv_goto (tgt := 239) hx hb dX11_seats_234 (by decide) ?_
                          refine va_iast hx hb hG.1 hP (wl_D hg f_6) hS 327 0 (wl_at (by decide) hsl_) rfl (vp_in_nI (by omega) (by decide)) dX11_seats_239 (fun H locs hP _ hS => ?_)
                          have hP := (congrArg (fun z9 => va_P G.1 vwCl ((wl g f_6).set 327 (g 327, eI G 330 ((upd sl3 z9 7)))) H) (show Int32.toNatClampNeg (nI (i3 + 30 * to)) = i3 + 30 * to from nI_clamp (by omega))).mp hP
                          obtain ⟨f_8, hP, e_8, o_8⟩ := b_put (by decide) hP
                          have hsl_ : f_8 327 = eI G 330 (upd sl3 (i3 + 30 * to) 7) := e_8
                          refine lv_iinc (v := nI (i3 + 1)) (lv' := [(8, .int (nI (i3 + 1))), (9, .int (sl3 (i3 + 30 * to))), (0, .ref (g 315)), (2, .int (nI to)), (5, .int u), (7, .int u2)]) hx hb dX11_seats_240 hl (k := 5) rfl (nI_add i3 1) (by decide) rfl (fun ls hl => ?_)
                          refine lv_goto (tgt := 174) hx hb dX11_seats_243 (by decide) ?_
                          replace hmo := ((o_8 315 (by decide))).trans hmo
                          replace hss_ := ((o_8 316 (by decide))).trans hss_
                          replace hju_ := ((o_8 324 (by decide))).trans hju_
                          replace hdr_ := ((o_8 325 (by decide))).trans hdr_
                          replace hdn_ := ((o_8 326 (by decide))).trans hdn_
                          replace hax_ := ((o_8 328 (by decide))).trans hax_
                          exact ih_4 (i3 + 1) (upd sl3 (i3 + 30 * to) 7) f_8 _ _ _ (by omega) (fun p hp => if e9 : p = i3 then (by rw [e9, pk_us]; exact ((if_neg (fun z => c_214 ((sr_iff (by omega)).mpr z))).trans (if_pos ((sr_iff (by omega)).mp c_229))).symm) else (pk_un (by omega)).trans (h3s p (by omega))) (fun k hk => (pk_un (by omega)).trans (h3o k (by omega))) (by omega) (hmo) (hss_) (hju_) (hdr_) (hdn_) (hsl_) (hax_) (fun j hj => ((o_8 j (by omega))).trans (o_6 j (by omega))) hP hS (lv_sub hl [2, 3, 4, 5, 0] rfl)
                      · refine lv_iconst (v := 5) hx hb dX11_seats_217 (by decide) ?_
                        refine lv_goto (tgt := 239) hx hb dX11_seats_218 (by decide) ?_
                        refine va_iast hx hb hG.1 hP (wl_D hg f_6) hS 327 0 (wl_at (by decide) hsl_) rfl (vp_in_nI (by omega) (by decide)) dX11_seats_239 (fun H locs hP _ hS => ?_)
                        have hP := (congrArg (fun z9 => va_P G.1 vwCl ((wl g f_6).set 327 (g 327, eI G 330 ((upd sl3 z9 5)))) H) (show Int32.toNatClampNeg (nI (i3 + 30 * to)) = i3 + 30 * to from nI_clamp (by omega))).mp hP
                        obtain ⟨f_9, hP, e_9, o_9⟩ := b_put (by decide) hP
                        have hsl_ : f_9 327 = eI G 330 (upd sl3 (i3 + 30 * to) 5) := e_9
                        refine lv_iinc (v := nI (i3 + 1)) (lv' := [(8, .int (nI (i3 + 1))), (9, .int (sl3 (i3 + 30 * to))), (0, .ref (g 315)), (2, .int (nI to)), (5, .int u), (7, .int u2)]) hx hb dX11_seats_240 hl (k := 5) rfl (nI_add i3 1) (by decide) rfl (fun ls hl => ?_)
                        refine lv_goto (tgt := 174) hx hb dX11_seats_243 (by decide) ?_
                        replace hmo := ((o_9 315 (by decide))).trans hmo
                        replace hss_ := ((o_9 316 (by decide))).trans hss_
                        replace hju_ := ((o_9 324 (by decide))).trans hju_
                        replace hdr_ := ((o_9 325 (by decide))).trans hdr_
                        replace hdn_ := ((o_9 326 (by decide))).trans hdn_
                        replace hax_ := ((o_9 328 (by decide))).trans hax_
                        exact ih_4 (i3 + 1) (upd sl3 (i3 + 30 * to) 5) f_9 _ _ _ (by omega) (fun p hp => if e9 : p = i3 then (by rw [e9, pk_us]; exact (if_pos ((sr_iff (by omega)).mp c_214)).symm) else (pk_un (by omega)).trans (h3s p (by omega))) (fun k hk => (pk_un (by omega)).trans (h3o k (by omega))) (by omega) (hmo) (hss_) (hju_) (hdr_) (hdn_) (hsl_) (hax_) (fun j hj => ((o_9 j (by omega))).trans (o_6 j (by omega))) hP hS (lv_sub hl [2, 3, 4, 5, 0] rfl)
                exact key4 (30 + 1) 0 sl f_5 _ _ _ (Nat.zero_le _) (fun p hp => absurd hp (Nat.not_lt_zero _)) (fun k _ => rfl) (by omega) (hmo) (hss_) (hju_) (hdr_) (hdn_) (hsl_) (hax_) (fun j _ => rfl) hP hS (lv_sub hl [1, 3, 6, 8, 0] rfl)
              · have k_136 : ¬ ks ≤ w2 := fun z9 => c_136 ((nI_leI (a := ks) (b := w2) (by omega) (by omega)).mpr z9)
                refine lv_aload_n hx hb dX11_seats_139 rfl (lv_at hl 0 rfl) ?_
                refine va_get (D := G.1) (ci := 10) (v := .ref (g 324)) (C := RX11) (T := TX11) (N := 25) hx hb hts inlX11 hown hG.1 hP 315 (wl_at (by decide) hmo) rfl 16 (by decide) (hts (.fieldLink RX11 36 "SwornListsModel" "juries" "[I") w_120) (fun _ h9 => h9) rfl dX11_seats_140 ?_
                refine lv_iload_n hx hb dX11_seats_143 rfl (lv_at hl 2 rfl) ?_
                refine lv_iconst (v := 0) hx hb dX11_seats_144 (by decide) ?_
                refine va_iast hx hb hG.1 hP (wl_D hg f_2) hS 324 0 (wl_at (by decide) hju_) rfl (vp_in_nI (by omega) (by decide)) dX11_seats_145 (fun H locs hP _ hS => ?_)
                have hP := (congrArg (fun z9 => va_P G.1 vwCl ((wl g f_2).set 324 (g 324, eI G 11 ((upd ju z9 0)))) H) (show Int32.toNatClampNeg (nI to) = to from nI_clamp (by omega))).mp hP
                obtain ⟨f_10, hP, e_10, o_10⟩ := b_put (by decide) hP
                have hju_ : f_10 324 = eI G 11 (upd ju to 0) := e_10
                have hwf : paF n ks (seF opn lf ks d) 30 = (u ||| u2, w2) := by rw [hsd, paF_or, hpd]
                replace hsl_ := ((o_10 327 (by decide))).trans hsl_
                replace hax_ := ((o_10 328 (by decide))).trans hax_
                refine W_q9 hQ9 ?_
                exact W.vret hx hb hr (fun _ hT9 _ => ⟨⟨f_10, rfl, (⟨(upd ju to 0), sl, ax, hju_, hsl_, hax_, by rw [hwf, if_pos (show w2 < ks by omega)]; exact pk_us, fun k hk => pk_un hk, fun p hp => by rw [hwf, if_pos (show w2 < ks by omega)], fun k _ => rfl, fun _ => rfl, fun z9 => absurd (show (paF n ks (seF opn lf ks d) 30).2 < ks by rw [hwf]; show w2 < ks; omega) z9, fun k _ => rfl, fun j hj => (((o_10 j (by omega))).trans (o_2 j (by omega))).trans (o_1 j (by omega))⟩), by rw [hT9]; exact hP⟩, hS.F hT9⟩) hS.2.2 dX11_seats_146
            · have k_94 : ¬ 30 ≤ i2 := fun z9 => c_94 ((nI_leI (a := 30) (b := i2) (by omega) (by omega)).mpr z9)
              refine lv_iload hx hb dX11_seats_97 (lv_at hl 6 rfl) ?_
              refine lv_iload hx hb dX11_seats_99 (lv_at hl 4 rfl) ?_
              refine lv_icmp_ge (tgt := 132) hx hb dX11_seats_101 (by decide) (fun c_101 => ?_) (fun c_101 => ?_)
              · have k_101 : ks ≤ w2 := (nI_leI (a := ks) (b := w2) (by omega) (by omega)).mp c_101
                have hpd : paF n ks (0, w) 30 = (u2, w2) := by rw [show (30 : Nat) = i2 + (30 - i2) by omega, paF_stop (by rw [hpa]; show ¬ w2 < ks; omega) _]; exact hpa
                refine lv_iload hx hb dX11_seats_132 (lv_at hl 6 rfl) ?_
                refine lv_iload hx hb dX11_seats_134 (lv_at hl 4 rfl) ?_
                refine lv_icmp_ge (tgt := 147) hx hb dX11_seats_136 (by decide) (fun c_136 => ?_) (fun c_136 => ?_)
                · have k_136 : ks ≤ w2 := (nI_leI (a := ks) (b := w2) (by omega) (by omega)).mp c_136
                  refine lv_aload_n hx hb dX11_seats_147 rfl (lv_at hl 0 rfl) ?_
                  refine va_get (D := G.1) (ci := 10) (v := .ref (g 324)) (C := RX11) (T := TX11) (N := 25) hx hb hts inlX11 hown hG.1 hP 315 (wl_at (by decide) hmo) rfl 16 (by decide) (hts (.fieldLink RX11 36 "SwornListsModel" "juries" "[I") w_120) (fun _ h9 => h9) rfl dX11_seats_148 ?_
                  refine lv_iload_n hx hb dX11_seats_151 rfl (lv_at hl 2 rfl) ?_
                  refine lv_iload hx hb dX11_seats_152 (lv_at hl 5 rfl) ?_
                  refine lv_iload hx hb dX11_seats_154 (lv_at hl 7 rfl) ?_
                  refine lv_ior hx hb dX11_seats_156 ?_
                  refine va_iast hx hb hG.1 hP (wl_D hg f_2) hS 324 0 (wl_at (by decide) hju_) rfl (vp_in_nI (by omega) (by decide)) dX11_seats_157 (fun H locs hP _ hS => ?_)
                  have hP := (congrArg (fun z9 => va_P G.1 vwCl ((wl g f_2).set 324 (g 324, eI G 11 ((upd ju z9 (u ||| u2))))) H) (show Int32.toNatClampNeg (nI to) = to from nI_clamp (by omega))).mp hP
                  obtain ⟨f_11, hP, e_11, o_11⟩ := b_put (by decide) hP
                  have hju_ : f_11 324 = eI G 11 (upd ju to (u ||| u2)) := e_11
                  refine lv_aload_n hx hb dX11_seats_158 rfl (lv_at hl 0 rfl) ?_
                  replace hmo := ((o_11 315 (by decide))).trans hmo
                  refine va_get (D := G.1) (ci := 10) (v := .ref (g 328)) (C := RX11) (T := TX11) (N := 25) hx hb hts inlX11 hown hG.1 hP 315 (wl_at (by decide) hmo) rfl 20 (by decide) (hts (.fieldLink RX11 48 "SwornListsModel" "abouts" "[I") w_124) (fun _ h9 => h9) rfl dX11_seats_159 ?_
                  refine lv_iconst (v := 4) hx hb dX11_seats_162 (by decide) ?_
                  refine lv_iload_n hx hb dX11_seats_163 rfl (lv_at hl 2 rfl) ?_
                  refine lv_imul hx hb dX11_seats_164 ?_
                  refine my_bei (v := nI (4 * to)) (pk_mul 4 to) ?_
                  refine lv_iload hx hb dX11_seats_165 (lv_at hl 7 rfl) ?_
                  refine rd_calli (va_runS (As := [.int u2]) (rest := [.int (nI (4 * to)), .ref (g 328)]) ⟨hx, hb, hml, hown, hts⟩ (r_sizeOf l G g hg f_11 u2  ) (my_cwS hts ok_X11_sizeOf w_584 rfl rfl ⟨Nat.le_of_ble_eq_true rfl, Nat.le_of_ble_eq_true rfl⟩) ⟨bP.blind, fun U hU hW => ⟨rfl, by rw [hU]; exact hP, kG.warm hW hG⟩⟩ rfl rfl hl.1 rfl (lv_room (Nat.le_of_ble_eq_true rfl)) dX11_seats_167 ⟨Nat.le_of_ble_eq_true rfl, Nat.le_of_ble_eq_true rfl⟩) (fun r hr9 => ?_)
                  obtain ⟨c95, rfl, hx_12_0, hx_12_1⟩ := hr9
                  have hsz := size_ok (x := u2) (by have h9 := paF_hi (pas := n) (ks := ks) (c := w) 30 (by omega); rw [hpd] at h9; exact h9) hx_12_1
                  replace hax_ := ((o_11 328 (by decide))).trans hax_
                  refine va_iast hx hb hG.1 hP (wl_D hg f_11) hS 328 0 (wl_at (by decide) hax_) rfl (vp_in_nI (by omega) (by decide)) dX11_seats_170 (fun H locs hP _ hS => ?_)
                  have hP := (congrArg (fun z9 => va_P G.1 vwCl ((wl g f_11).set 328 (g 328, eI G 44 ((upd ax z9 (nI c95))))) H) (show Int32.toNatClampNeg (nI (4 * to)) = 4 * to from nI_clamp (by omega))).mp hP
                  obtain ⟨f_13, hP, e_13, o_13⟩ := b_put (by decide) hP
                  have hax_ : f_13 328 = eI G 44 (upd ax (4 * to) (nI c95)) := e_13
                  refine lv_iconst (v := 0) hx hb dX11_seats_171 (by decide) ?_
                  refine lv_istore (lv' := [(8, .int 0), (0, .ref (g 315)), (1, .int (nI t)), (2, .int (nI to)), (3, .int n), (4, .int (nI ks)), (5, .int u), (6, .int (nI w2)), (7, .int u2)]) hx hb dX11_seats_172 hl (by decide) rfl (fun ls hl => ?_)
                  replace hmo := ((o_13 315 (by decide))).trans hmo
                  replace hss_ := ((o_13 316 (by decide)).trans ((o_11 316 (by decide)))).trans hss_
                  replace hju_ := ((o_13 324 (by decide))).trans hju_
                  replace hdr_ := ((o_13 325 (by decide)).trans ((o_11 325 (by decide)))).trans hdr_
                  replace hdn_ := ((o_13 326 (by decide)).trans ((o_11 326 (by decide)))).trans hdn_
                  replace hsl_ := ((o_13 327 (by decide)).trans ((o_11 327 (by decide)))).trans hsl_
                  have key6 : ∀ (n9_6 : Nat) (i3 : Nat) (sl3 : Nat → Int32) (f_14 : Nat → va_E) (H : Heap) (locs : List Loc) (ls : Array Slot), (i3 ≤ 30) → (∀ p, p < i3 → sl3 (p + 30 * to) = (if bt u p = true then 5 else if bt u2 p = true then 7 else sl (p + 30 * to))) → (∀ k, (k < 30 * to ∨ i3 + 30 * to ≤ k) → sl3 k = sl k) → 30 - i3 < n9_6 → f_14 315 = eO 10 [.ref (g 316), .ref (g 317), .ref (g 318), .long ab2, .long be2, .int sn, .ref (g 319), .ref (g 320), .int wn, .ref (g 321), .ref (g 322), .int sa, .int ly, .int rdy, .int fd, .ref (g 323), .ref (g 324), .ref (g 325), .ref (g 326), .ref (g 327), .ref (g 328), .ref (g 329), .ref (g 330), .ref (g 331), .ref (g 332)] → f_14 316 = eI G 2246 ss → f_14 324 = eI G 11 (upd ju to (u ||| u2)) → f_14 325 = eI G 264 dr → f_14 326 = eI G 11 dn → f_14 327 = eI G 330 sl3 → f_14 328 = eI G 44 (upd ax (4 * to) (nI c95)) → (∀ j, j ≠ 327 → f_14 j = f_13 j) → va_P G.1 vwCl (wl g f_14) H → va_S (gA g) s.heap H locs → lv_has ls 10 [(0, .ref (g 315)), (2, .int (nI to)), (5, .int u), (7, .int u2), (8, .int (nI i3))] → W p l e (headSpec (wsT yX11_seats cX11_seats 10 none) ({ frames := 1, cells := 0, slots := 0, locals := 22 })).room s m ([.ref (g 315), .int (nI t), .int (nI to), .int n] : List Value).toArray below meth c H locs 0 0 Q9 (F0 m 174 ls []) := by
                    intro n9_6
                    induction n9_6 with
                    | zero => intro i3 sl3 f_14 H locs ls hi3 h3s h3o hn9_6; exact absurd hn9_6 (Nat.not_lt_zero _)
                    | succ n9_6 ih_6 =>
                      intro i3 sl3 f_14 H locs ls hi3 h3s h3o hn9_6 hmo hss_ hju_ hdr_ hdn_ hsl_ hax_ o_14 hP hS hl
                      refine lv_iload hx hb dX11_seats_174 (lv_at hl 4 rfl) ?_
                      refine lv_bipush (v := 30) hx hb dX11_seats_176 (by decide) ?_
                      refine lv_icmp_ge (tgt := 246) hx hb dX11_seats_178 (by decide) (fun c_178 => ?_) (fun c_178 => ?_)
                      · have k_178 : 30 ≤ i3 := (nI_leI (a := 30) (b := i3) (by omega) (by omega)).mp c_178
                        have hwf : paF n ks (seF opn lf ks d) 30 = (u ||| u2, w2) := by rw [hsd, paF_or, hpd]
                        refine W_q9 hQ9 ?_
                        exact W.vret hx hb hr (fun _ hT9 _ => ⟨⟨f_14, rfl, (⟨(upd ju to (u ||| u2)), sl3, (upd ax (4 * to) (nI c95)), hju_, hsl_, hax_, by rw [hwf, if_neg (show ¬ w2 < ks by omega)]; exact pk_us, fun k hk => pk_un hk, fun p hp => by rw [hwf, if_neg (show ¬ w2 < ks by omega), hsd, hpd]; exact h3s p (by omega), fun k hk => h3o k (by omega), fun z9 => absurd z9 (by rw [hwf]; show ¬ w2 < ks; omega), fun _ => by rw [hsd, hpd, pk_us, ← hsz], fun k hk => pk_un hk, fun j hj => (((((o_14 j (by omega))).trans (o_13 j (by omega))).trans (o_11 j (by omega))).trans (o_2 j (by omega))).trans (o_1 j (by omega))⟩), by rw [hT9]; exact hP⟩, hS.F hT9⟩) hS.2.2 dX11_seats_246
                      · have k_178 : ¬ 30 ≤ i3 := fun z9 => c_178 ((nI_leI (a := 30) (b := i3) (by omega) (by omega)).mpr z9)
                        refine lv_aload_n hx hb dX11_seats_181 rfl (lv_at hl 0 rfl) ?_
                        refine va_get (D := G.1) (ci := 10) (v := .ref (g 327)) (C := RX11) (T := TX11) (N := 25) hx hb hts inlX11 hown hG.1 hP 315 (wl_at (by decide) hmo) rfl 19 (by decide) (hts (.fieldLink RX11 45 "SwornListsModel" "slips" "[I") w_123) (fun _ h9 => h9) rfl dX11_seats_182 ?_
                        refine lv_bipush (v := 30) hx hb dX11_seats_185 (by decide) ?_
                        refine lv_iload_n hx hb dX11_seats_187 rfl (lv_at hl 1 rfl) ?_
                        refine lv_imul hx hb dX11_seats_188 ?_
                        refine my_bei (v := nI (30 * to)) (pk_mul 30 to) ?_
                        refine lv_iload hx hb dX11_seats_189 (lv_at hl 4 rfl) ?_
                        refine lv_iadd hx hb dX11_seats_191 ?_
                        refine my_bei (v := nI (i3 + 30 * to)) ((nI_add (30 * to) i3).trans (congrArg nI (show (30 * to) + i3 = i3 + 30 * to by omega))) ?_
                        refine va_iald hx hb hG.1 hP 327 0 (wl_at (by decide) hsl_) rfl (vp_in_nI (by omega) (by decide)) dX11_seats_192 ?_
                        refine my_bei (v := sl3 (i3 + 30 * to)) (congrArg sl3 (nI_clamp (n := i3 + 30 * to) (by omega))) ?_
                        refine lv_istore (lv' := [(9, .int (sl3 (i3 + 30 * to))), (0, .ref (g 315)), (2, .int (nI to)), (5, .int u), (7, .int u2), (8, .int (nI i3))]) hx hb dX11_seats_193 hl (by decide) rfl (fun ls hl => ?_)
                        refine lv_aload_n hx hb dX11_seats_195 rfl (lv_at hl 1 rfl) ?_
                        refine va_get (D := G.1) (ci := 10) (v := .ref (g 327)) (C := RX11) (T := TX11) (N := 25) hx hb hts inlX11 hown hG.1 hP 315 (wl_at (by decide) hmo) rfl 19 (by decide) (hts (.fieldLink RX11 45 "SwornListsModel" "slips" "[I") w_123) (fun _ h9 => h9) rfl dX11_seats_196 ?_
                        refine lv_bipush (v := 30) hx hb dX11_seats_199 (by decide) ?_
                        refine lv_iload_n hx hb dX11_seats_201 rfl (lv_at hl 2 rfl) ?_
                        refine lv_imul hx hb dX11_seats_202 ?_
                        refine my_bei (v := nI (30 * to)) (pk_mul 30 to) ?_
                        refine lv_iload hx hb dX11_seats_203 (lv_at hl 5 rfl) ?_
                        refine lv_iadd hx hb dX11_seats_205 ?_
                        refine my_bei (v := nI (i3 + 30 * to)) ((nI_add (30 * to) i3).trans (congrArg nI (show (30 * to) + i3 = i3 + 30 * to by omega))) ?_
                        refine lv_iload hx hb dX11_seats_206 (lv_at hl 3 rfl) ?_
                        refine lv_iload hx hb dX11_seats_208 (lv_at hl 5 rfl) ?_
                        refine lv_ishr hx hb dX11_seats_210 ?_
                        refine lv_iconst (v := 1) hx hb dX11_seats_211 (by decide) ?_
                        refine lv_iand hx hb dX11_seats_212 ?_
                        refine lv_iconst (v := 1) hx hb dX11_seats_213 (by decide) ?_
                        refine lv_icmp_ne (tgt := 221) hx hb dX11_seats_214 (by decide) (fun c_214 => ?_) (fun c_214 => ?_)
                        · refine lv_iload hx hb dX11_seats_221 (lv_at hl 4 rfl) ?_
                          refine lv_iload hx hb dX11_seats_223 (lv_at hl 5 rfl) ?_
                          refine lv_ishr hx hb dX11_seats_225 ?_
                          refine lv_iconst (v := 1) hx hb dX11_seats_226 (by decide) ?_
                          refine lv_iand hx hb dX11_seats_227 ?_
                          refine lv_iconst (v := 1) hx hb dX11_seats_228 (by decide) ?_
                          refine lv_icmp_ne (tgt := 237) hx hb dX11_seats_229 (by decide) (fun c_229 => ?_) (fun c_229 => ?_)
                          · refine lv_iload hx hb dX11_seats_237 (lv_at hl 0 rfl) ?_
                            refine va_iast hx hb hG.1 hP (wl_D hg f_14) hS 327 0 (wl_at (by decide) hsl_) rfl (vp_in_nI (by omega) (by decide)) dX11_seats_239 (fun H locs hP _ hS => ?_)
                            have hP := (congrArg (fun z9 => va_P G.1 vwCl ((wl g f_14).set 327 (g 327, eI G 330 ((upd sl3 z9 (sl3 (i3 + 30 * to)))))) H) (show Int32.toNatClampNeg (nI (i3 + 30 * to)) = i3 + 30 * to from nI_clamp (by omega))).mp hP
                            obtain ⟨f_15, hP, e_15, o_15⟩ := b_put (by decide) hP
                            have hsl_ : f_15 327 = eI G 330 (upd sl3 (i3 + 30 * to) (sl3 (i3 + 30 * to))) := e_15
                            refine lv_iinc (v := nI (i3 + 1)) (lv' := [(8, .int (nI (i3 + 1))), (9, .int (sl3 (i3 + 30 * to))), (0, .ref (g 315)), (2, .int (nI to)), (5, .int u), (7, .int u2)]) hx hb dX11_seats_240 hl (k := 5) rfl (nI_add i3 1) (by decide) rfl (fun ls hl => ?_)
                            refine lv_goto (tgt := 174) hx hb dX11_seats_243 (by decide) ?_
                            replace hmo := ((o_15 315 (by decide))).trans hmo
                            replace hss_ := ((o_15 316 (by decide))).trans hss_
                            replace hju_ := ((o_15 324 (by decide))).trans hju_
                            replace hdr_ := ((o_15 325 (by decide))).trans hdr_
                            replace hdn_ := ((o_15 326 (by decide))).trans hdn_
                            replace hax_ := ((o_15 328 (by decide))).trans hax_
                            exact ih_6 (i3 + 1) (upd sl3 (i3 + 30 * to) (sl3 (i3 + 30 * to))) f_15 _ _ _ (by omega) (fun p hp => if e9 : p = i3 then (by rw [e9, pk_us]; exact ((if_neg (fun z => c_214 ((sr_iff (by omega)).mpr z))).trans ((if_neg (fun z => c_229 ((sr_iff (by omega)).mpr z))).trans (h3o (i3 + 30 * to) (by omega)).symm)).symm) else (pk_un (by omega)).trans (h3s p (by omega))) (fun k hk => (pk_un (by omega)).trans (h3o k (by omega))) (by omega) (hmo) (hss_) (hju_) (hdr_) (hdn_) (hsl_) (hax_) (fun j hj => ((o_15 j (by omega))).trans (o_14 j (by omega))) hP hS (lv_sub hl [2, 3, 4, 5, 0] rfl)
                          · refine lv_bipush (v := 7) hx hb dX11_seats_232 (by decide) ?_
                            refine lv_goto (tgt := 239) hx hb dX11_seats_234 (by decide) ?_
                            refine va_iast hx hb hG.1 hP (wl_D hg f_14) hS 327 0 (wl_at (by decide) hsl_) rfl (vp_in_nI (by omega) (by decide)) dX11_seats_239 (fun H locs hP _ hS => ?_)
                            have hP := (congrArg (fun z9 => va_P G.1 vwCl ((wl g f_14).set 327 (g 327, eI G 330 ((upd sl3 z9 7)))) H) (show Int32.toNatClampNeg (nI (i3 + 30 * to)) = i3 + 30 * to from nI_clamp (by omega))).mp hP
                            obtain ⟨f_16, hP, e_16, o_16⟩ := b_put (by decide) hP
                            have hsl_ : f_16 327 = eI G 330 (upd sl3 (i3 + 30 * to) 7) := e_16
                            refine lv_iinc (v := nI (i3 + 1)) (lv' := [(8, .int (nI (i3 + 1))), (9, .int (sl3 (i3 + 30 * to))), (0, .ref (g 315)), (2, .int (nI to)), (5, .int u), (7, .int u2)]) hx hb dX11_seats_240 hl (k := 5) rfl (nI_add i3 1) (by decide) rfl (fun ls hl => ?_)
                            refine lv_goto (tgt := 174) hx hb dX11_seats_243 (by decide) ?_
                            replace hmo := ((o_16 315 (by decide))).trans hmo
                            replace hss_ := ((o_16 316 (by decide))).trans hss_
                            replace hju_ := ((o_16 324 (by decide))).trans hju_
                            replace hdr_ := ((o_16 325 (by decide))).trans hdr_
                            replace hdn_ := ((o_16 326 (by decide))).trans hdn_
                            replace hax_ := ((o_16 328 (by decide))).trans hax_
                            exact ih_6 (i3 + 1) (upd sl3 (i3 + 30 * to) 7) f_16 _ _ _ (by omega) (fun p hp => if e9 : p = i3 then (by rw [e9, pk_us]; exact ((if_neg (fun z => c_214 ((sr_iff (by omega)).mpr z))).trans (if_pos ((sr_iff (by omega)).mp c_229))).symm) else (pk_un (by omega)).trans (h3s p (by omega))) (fun k hk => (pk_un (by omega)).trans (h3o k (by omega))) (by omega) (hmo) (hss_) (hju_) (hdr_) (hdn_) (hsl_) (hax_) (fun j hj => ((o_16 j (by omega))).trans (o_14 j (by omega))) hP hS (lv_sub hl [2, 3, 4, 5, 0] rfl)
                        · refine lv_iconst (v := 5) hx hb dX11_seats_217 (by decide) ?_
                          refine lv_goto (tgt := 239) hx hb dX11_seats_218 (by decide) ?_
                          refine va_iast hx hb hG.1 hP (wl_D hg f_14) hS 327 0 (wl_at (by decide) hsl_) rfl (vp_in_nI (by omega) (by decide)) dX11_seats_239 (fun H locs hP _ hS => ?_)
                          have hP := (congrArg (fun z9 => va_P G.1 vwCl ((wl g f_14).set 327 (g 327, eI G 330 ((upd sl3 z9 5)))) H) (show Int32.toNatClampNeg (nI (i3 + 30 * to)) = i3 + 30 * to from nI_clamp (by omega))).mp hP
                          obtain ⟨f_17, hP, e_17, o_17⟩ := b_put (by decide) hP
                          have hsl_ : f_17 327 = eI G 330 (upd sl3 (i3 + 30 * to) 5) := e_17
                          refine lv_iinc (v := nI (i3 + 1)) (lv' := [(8, .int (nI (i3 + 1))), (9, .int (sl3 (i3 + 30 * to))), (0, .ref (g 315)), (2, .int (nI to)), (5, .int u), (7, .int u2)]) hx hb dX11_seats_240 hl (k := 5) rfl (nI_add i3 1) (by decide) rfl (fun ls hl => ?_)
                          refine lv_goto (tgt := 174) hx hb dX11_seats_243 (by decide) ?_
                          replace hmo := ((o_17 315 (by decide))).trans hmo
                          replace hss_ := ((o_17 316 (by decide))).trans hss_
                          replace hju_ := ((o_17 324 (by decide))).trans hju_
                          replace hdr_ := ((o_17 325 (by decide))).trans hdr_
                          replace hdn_ := ((o_17 326 (by decide))).trans hdn_
                          replace hax_ := ((o_17 328 (by decide))).trans hax_
                          exact ih_6 (i3 + 1) (upd sl3 (i3 + 30 * to) 5) f_17 _ _ _ (by omega) (fun p hp => if e9 : p = i3 then (by rw [e9, pk_us]; exact (if_pos ((sr_iff (by omega)).mp c_214)).symm) else (pk_un (by omega)).trans (h3s p (by omega))) (fun k hk => (pk_un (by omega)).trans (h3o k (by omega))) (by omega) (hmo) (hss_) (hju_) (hdr_) (hdn_) (hsl_) (hax_) (fun j hj => ((o_17 j (by omega))).trans (o_14 j (by omega))) hP hS (lv_sub hl [2, 3, 4, 5, 0] rfl)
                  exact key6 (30 + 1) 0 sl f_13 _ _ _ (Nat.zero_le _) (fun p hp => absurd hp (Nat.not_lt_zero _)) (fun k _ => rfl) (by omega) (hmo) (hss_) (hju_) (hdr_) (hdn_) (hsl_) (hax_) (fun j _ => rfl) hP hS (lv_sub hl [1, 3, 6, 8, 0] rfl)
                · have k_136 : ¬ ks ≤ w2 := fun z9 => c_136 ((nI_leI (a := ks) (b := w2) (by omega) (by omega)).mpr z9)
                  refine lv_aload_n hx hb dX11_seats_139 rfl (lv_at hl 0 rfl) ?_
                  refine va_get (D := G.1) (ci := 10) (v := .ref (g 324)) (C := RX11) (T := TX11) (N := 25) hx hb hts inlX11 hown hG.1 hP 315 (wl_at (by decide) hmo) rfl 16 (by decide) (hts (.fieldLink RX11 36 "SwornListsModel" "juries" "[I") w_120) (fun _ h9 => h9) rfl dX11_seats_140 ?_
                  refine lv_iload_n hx hb dX11_seats_143 rfl (lv_at hl 2 rfl) ?_
                  refine lv_iconst (v := 0) hx hb dX11_seats_144 (by decide) ?_
                  refine va_iast hx hb hG.1 hP (wl_D hg f_2) hS 324 0 (wl_at (by decide) hju_) rfl (vp_in_nI (by omega) (by decide)) dX11_seats_145 (fun H locs hP _ hS => ?_)
                  have hP := (congrArg (fun z9 => va_P G.1 vwCl ((wl g f_2).set 324 (g 324, eI G 11 ((upd ju z9 0)))) H) (show Int32.toNatClampNeg (nI to) = to from nI_clamp (by omega))).mp hP
                  obtain ⟨f_18, hP, e_18, o_18⟩ := b_put (by decide) hP
                  have hju_ : f_18 324 = eI G 11 (upd ju to 0) := e_18
                  have hwf : paF n ks (seF opn lf ks d) 30 = (u ||| u2, w2) := by rw [hsd, paF_or, hpd]
                  replace hsl_ := ((o_18 327 (by decide))).trans hsl_
                  replace hax_ := ((o_18 328 (by decide))).trans hax_
                  refine W_q9 hQ9 ?_
                  exact W.vret hx hb hr (fun _ hT9 _ => ⟨⟨f_18, rfl, (⟨(upd ju to 0), sl, ax, hju_, hsl_, hax_, by rw [hwf, if_pos (show w2 < ks by omega)]; exact pk_us, fun k hk => pk_un hk, fun p hp => by rw [hwf, if_pos (show w2 < ks by omega)], fun k _ => rfl, fun _ => rfl, fun z9 => absurd (show (paF n ks (seF opn lf ks d) 30).2 < ks by rw [hwf]; show w2 < ks; omega) z9, fun k _ => rfl, fun j hj => (((o_18 j (by omega))).trans (o_2 j (by omega))).trans (o_1 j (by omega))⟩), by rw [hT9]; exact hP⟩, hS.F hT9⟩) hS.2.2 dX11_seats_146
              · have k_101 : ¬ ks ≤ w2 := fun z9 => c_101 ((nI_leI (a := ks) (b := w2) (by omega) (by omega)).mpr z9)
                refine lv_iload_n hx hb dX11_seats_104 rfl (lv_at hl 3 rfl) ?_
                refine lv_iload hx hb dX11_seats_105 (lv_at hl 8 rfl) ?_
                refine lv_ishr hx hb dX11_seats_107 ?_
                refine lv_iconst (v := 1) hx hb dX11_seats_108 (by decide) ?_
                refine lv_iand hx hb dX11_seats_109 ?_
                refine lv_iconst (v := 1) hx hb dX11_seats_110 (by decide) ?_
                refine lv_icmp_ne (tgt := 126) hx hb dX11_seats_111 (by decide) (fun c_111 => ?_) (fun c_111 => ?_)
                · refine lv_iinc (v := nI (i2 + 1)) (lv' := [(8, .int (nI (i2 + 1))), (0, .ref (g 315)), (1, .int (nI t)), (2, .int (nI to)), (3, .int n), (4, .int (nI ks)), (5, .int u), (6, .int (nI w2)), (7, .int u2)]) hx hb dX11_seats_126 hl (k := 8) rfl (nI_add i2 1) (by decide) rfl (fun ls hl => ?_)
                  refine lv_goto (tgt := 90) hx hb dX11_seats_129 (by decide) ?_
                  exact ih_2 (i2 + 1) u2 w2 f_2 _ _ _ (by omega) ((paF_n (fun z => c_111 ((sr_iff (by omega)).mpr z.2))).trans hpa) (by omega) (by omega) (hmo) (hss_) (hju_) (hdr_) (hdn_) (hsl_) (hax_) (fun j hj => (o_2 j (by omega))) hP hS (lv_sub hl [1, 2, 3, 4, 5, 6, 7, 8, 0] rfl)
                · refine lv_iload hx hb dX11_seats_114 (lv_at hl 7 rfl) ?_
                  refine lv_iconst (v := 1) hx hb dX11_seats_116 (by decide) ?_
                  refine lv_iload hx hb dX11_seats_117 (lv_at hl 8 rfl) ?_
                  refine lv_ishl hx hb dX11_seats_119 ?_
                  refine lv_ior hx hb dX11_seats_120 ?_
                  refine lv_istore (lv' := [(7, .int (u2 ||| (1 <<< ((nI i2) &&& 31)))), (0, .ref (g 315)), (1, .int (nI t)), (2, .int (nI to)), (3, .int n), (4, .int (nI ks)), (5, .int u), (6, .int (nI w2)), (8, .int (nI i2))]) hx hb dX11_seats_121 hl (by decide) rfl (fun ls hl => ?_)
                  refine lv_iinc (v := nI (w2 + 1)) (lv' := [(6, .int (nI (w2 + 1))), (7, .int (u2 ||| (1 <<< ((nI i2) &&& 31)))), (0, .ref (g 315)), (1, .int (nI t)), (2, .int (nI to)), (3, .int n), (4, .int (nI ks)), (5, .int u), (8, .int (nI i2))]) hx hb dX11_seats_123 hl (k := 7) rfl (nI_add w2 1) (by decide) rfl (fun ls hl => ?_)
                  refine lv_iinc (v := nI (i2 + 1)) (lv' := [(8, .int (nI (i2 + 1))), (6, .int (nI (w2 + 1))), (7, .int (u2 ||| (1 <<< ((nI i2) &&& 31)))), (0, .ref (g 315)), (1, .int (nI t)), (2, .int (nI to)), (3, .int n), (4, .int (nI ks)), (5, .int u)]) hx hb dX11_seats_126 hl (k := 8) rfl (nI_add i2 1) (by decide) rfl (fun ls hl => ?_)
                  refine lv_goto (tgt := 90) hx hb dX11_seats_129 (by decide) ?_
                  exact ih_2 (i2 + 1) (u2 ||| (1 <<< ((nI i2) &&& 31))) (w2 + 1) f_2 _ _ _ (by omega) ((paF_y ⟨by rw [hpa]; show w2 < ks; omega, (sr_iff (by omega)).mp c_111⟩).trans (by rw [hpa]; rfl)) (by omega) (by omega) (hmo) (hss_) (hju_) (hdr_) (hdn_) (hsl_) (hax_) (fun j hj => (o_2 j (by omega))) hP hS (lv_sub hl [3, 4, 5, 6, 7, 8, 1, 2, 0] rfl)
        exact key2 (30 + 1) 0 0 w f_1 _ _ _ (Nat.zero_le _) (rfl) (by omega) (by omega) (hmo) (hss_) (hju_) (hdr_) (hdn_) (hsl_) (hax_) (fun j _ => rfl) hP hS (lv_sub hl [2, 3, 4, 5, 6, 7, 8, 1, 0] rfl)
      · have k_25 : ¬ d ≤ i := fun z9 => c_25 ((nI_leI (a := d) (b := i) (by omega) (by omega)).mpr z9)
        refine lv_iload hx hb dX11_seats_28 (lv_at hl 6 rfl) ?_
        refine lv_iload hx hb dX11_seats_30 (lv_at hl 4 rfl) ?_
        refine lv_icmp_ge (tgt := 84) hx hb dX11_seats_32 (by decide) (fun c_32 => ?_) (fun c_32 => ?_)
        · have k_32 : ks ≤ w := (nI_leI (a := ks) (b := w) (by omega) (by omega)).mp c_32
          have hsd : seF opn lf ks d = (u, w) := by rw [show d = i + (d - i) by omega, seF_stop (by rw [hse]; show ¬ w < ks; omega) _]; exact hse
          refine lv_iconst (v := 0) hx hb dX11_seats_84 (by decide) ?_
          refine lv_istore (lv' := [(7, .int 0), (0, .ref (g 315)), (1, .int (nI t)), (2, .int (nI to)), (3, .int n), (4, .int (nI ks)), (5, .int u), (6, .int (nI w))]) hx hb dX11_seats_85 hl (by decide) rfl (fun ls hl => ?_)
          refine lv_iconst (v := 0) hx hb dX11_seats_87 (by decide) ?_
          refine lv_istore (lv' := [(8, .int 0), (7, .int 0), (0, .ref (g 315)), (1, .int (nI t)), (2, .int (nI to)), (3, .int n), (4, .int (nI ks)), (5, .int u), (6, .int (nI w))]) hx hb dX11_seats_88 hl (by decide) rfl (fun ls hl => ?_)
          have key7 : ∀ (n9_7 : Nat) (i2 : Nat) (u2 : Int32) (w2 : Nat) (f_19 : Nat → va_E) (H : Heap) (locs : List Loc) (ls : Array Slot), (i2 ≤ 30) → (paF n ks (0, w) i2 = (u2, w2)) → (w2 ≤ ks) → 30 - i2 < n9_7 → f_19 315 = eO 10 [.ref (g 316), .ref (g 317), .ref (g 318), .long ab2, .long be2, .int sn, .ref (g 319), .ref (g 320), .int wn, .ref (g 321), .ref (g 322), .int sa, .int ly, .int rdy, .int fd, .ref (g 323), .ref (g 324), .ref (g 325), .ref (g 326), .ref (g 327), .ref (g 328), .ref (g 329), .ref (g 330), .ref (g 331), .ref (g 332)] → f_19 316 = eI G 2246 ss → f_19 324 = eI G 11 ju → f_19 325 = eI G 264 dr → f_19 326 = eI G 11 dn → f_19 327 = eI G 330 sl → f_19 328 = eI G 44 ax → (∀ j, (j < 333 ∨ 333 ≤ j) → f_19 j = f_1 j) → va_P G.1 vwCl (wl g f_19) H → va_S (gA g) s.heap H locs → lv_has ls 10 [(0, .ref (g 315)), (1, .int (nI t)), (2, .int (nI to)), (3, .int n), (4, .int (nI ks)), (5, .int u), (6, .int (nI w2)), (7, .int u2), (8, .int (nI i2))] → W p l e (headSpec (wsT yX11_seats cX11_seats 10 none) ({ frames := 1, cells := 0, slots := 0, locals := 22 })).room s m ([.ref (g 315), .int (nI t), .int (nI to), .int n] : List Value).toArray below meth c H locs 0 0 Q9 (F0 m 90 ls []) := by
            intro n9_7
            induction n9_7 with
            | zero => intro i2 u2 w2 f_19 H locs ls hi2 hpa hwk2 hn9_7; exact absurd hn9_7 (Nat.not_lt_zero _)
            | succ n9_7 ih_7 =>
              intro i2 u2 w2 f_19 H locs ls hi2 hpa hwk2 hn9_7 hmo hss_ hju_ hdr_ hdn_ hsl_ hax_ o_19 hP hS hl
              refine lv_iload hx hb dX11_seats_90 (lv_at hl 8 rfl) ?_
              refine lv_bipush (v := 30) hx hb dX11_seats_92 (by decide) ?_
              refine lv_icmp_ge (tgt := 132) hx hb dX11_seats_94 (by decide) (fun c_94 => ?_) (fun c_94 => ?_)
              · have k_94 : 30 ≤ i2 := (nI_leI (a := 30) (b := i2) (by omega) (by omega)).mp c_94
                have hpd : paF n ks (0, w) 30 = (u2, w2) := by rw [← hpa, show i2 = 30 by omega]
                refine lv_iload hx hb dX11_seats_132 (lv_at hl 6 rfl) ?_
                refine lv_iload hx hb dX11_seats_134 (lv_at hl 4 rfl) ?_
                refine lv_icmp_ge (tgt := 147) hx hb dX11_seats_136 (by decide) (fun c_136 => ?_) (fun c_136 => ?_)
                · have k_136 : ks ≤ w2 := (nI_leI (a := ks) (b := w2) (by omega) (by omega)).mp c_136
                  refine lv_aload_n hx hb dX11_seats_147 rfl (lv_at hl 0 rfl) ?_
                  refine va_get (D := G.1) (ci := 10) (v := .ref (g 324)) (C := RX11) (T := TX11) (N := 25) hx hb hts inlX11 hown hG.1 hP 315 (wl_at (by decide) hmo) rfl 16 (by decide) (hts (.fieldLink RX11 36 "SwornListsModel" "juries" "[I") w_120) (fun _ h9 => h9) rfl dX11_seats_148 ?_
                  refine lv_iload_n hx hb dX11_seats_151 rfl (lv_at hl 2 rfl) ?_
                  refine lv_iload hx hb dX11_seats_152 (lv_at hl 5 rfl) ?_
                  refine lv_iload hx hb dX11_seats_154 (lv_at hl 7 rfl) ?_
                  refine lv_ior hx hb dX11_seats_156 ?_
                  refine va_iast hx hb hG.1 hP (wl_D hg f_19) hS 324 0 (wl_at (by decide) hju_) rfl (vp_in_nI (by omega) (by decide)) dX11_seats_157 (fun H locs hP _ hS => ?_)
                  have hP := (congrArg (fun z9 => va_P G.1 vwCl ((wl g f_19).set 324 (g 324, eI G 11 ((upd ju z9 (u ||| u2))))) H) (show Int32.toNatClampNeg (nI to) = to from nI_clamp (by omega))).mp hP
                  obtain ⟨f_20, hP, e_20, o_20⟩ := b_put (by decide) hP
                  have hju_ : f_20 324 = eI G 11 (upd ju to (u ||| u2)) := e_20
                  refine lv_aload_n hx hb dX11_seats_158 rfl (lv_at hl 0 rfl) ?_
                  replace hmo := ((o_20 315 (by decide))).trans hmo
                  refine va_get (D := G.1) (ci := 10) (v := .ref (g 328)) (C := RX11) (T := TX11) (N := 25) hx hb hts inlX11 hown hG.1 hP 315 (wl_at (by decide) hmo) rfl 20 (by decide) (hts (.fieldLink RX11 48 "SwornListsModel" "abouts" "[I") w_124) (fun _ h9 => h9) rfl dX11_seats_159 ?_
                  refine lv_iconst (v := 4) hx hb dX11_seats_162 (by decide) ?_
                  refine lv_iload_n hx hb dX11_seats_163 rfl (lv_at hl 2 rfl) ?_
                  refine lv_imul hx hb dX11_seats_164 ?_
                  refine my_bei (v := nI (4 * to)) (pk_mul 4 to) ?_
                  refine lv_iload hx hb dX11_seats_165 (lv_at hl 7 rfl) ?_
                  refine rd_calli (va_runS (As := [.int u2]) (rest := [.int (nI (4 * to)), .ref (g 328)]) ⟨hx, hb, hml, hown, hts⟩ (r_sizeOf l G g hg f_20 u2  ) (my_cwS hts ok_X11_sizeOf w_584 rfl rfl ⟨Nat.le_of_ble_eq_true rfl, Nat.le_of_ble_eq_true rfl⟩) ⟨bP.blind, fun U hU hW => ⟨rfl, by rw [hU]; exact hP, kG.warm hW hG⟩⟩ rfl rfl hl.1 rfl (lv_room (Nat.le_of_ble_eq_true rfl)) dX11_seats_167 ⟨Nat.le_of_ble_eq_true rfl, Nat.le_of_ble_eq_true rfl⟩) (fun r hr9 => ?_)
                  obtain ⟨c98, rfl, hx_21_0, hx_21_1⟩ := hr9
                  have hsz := size_ok (x := u2) (by have h9 := paF_hi (pas := n) (ks := ks) (c := w) 30 (by omega); rw [hpd] at h9; exact h9) hx_21_1
                  replace hax_ := ((o_20 328 (by decide))).trans hax_
                  refine va_iast hx hb hG.1 hP (wl_D hg f_20) hS 328 0 (wl_at (by decide) hax_) rfl (vp_in_nI (by omega) (by decide)) dX11_seats_170 (fun H locs hP _ hS => ?_)
                  have hP := (congrArg (fun z9 => va_P G.1 vwCl ((wl g f_20).set 328 (g 328, eI G 44 ((upd ax z9 (nI c98))))) H) (show Int32.toNatClampNeg (nI (4 * to)) = 4 * to from nI_clamp (by omega))).mp hP
                  obtain ⟨f_22, hP, e_22, o_22⟩ := b_put (by decide) hP
                  have hax_ : f_22 328 = eI G 44 (upd ax (4 * to) (nI c98)) := e_22
                  refine lv_iconst (v := 0) hx hb dX11_seats_171 (by decide) ?_
                  refine lv_istore (lv' := [(8, .int 0), (0, .ref (g 315)), (1, .int (nI t)), (2, .int (nI to)), (3, .int n), (4, .int (nI ks)), (5, .int u), (6, .int (nI w2)), (7, .int u2)]) hx hb dX11_seats_172 hl (by decide) rfl (fun ls hl => ?_)
                  replace hmo := ((o_22 315 (by decide))).trans hmo
                  replace hss_ := ((o_22 316 (by decide)).trans ((o_20 316 (by decide)))).trans hss_
                  replace hju_ := ((o_22 324 (by decide))).trans hju_
                  replace hdr_ := ((o_22 325 (by decide)).trans ((o_20 325 (by decide)))).trans hdr_
                  replace hdn_ := ((o_22 326 (by decide)).trans ((o_20 326 (by decide)))).trans hdn_
                  replace hsl_ := ((o_22 327 (by decide)).trans ((o_20 327 (by decide)))).trans hsl_
                  have key9 : ∀ (n9_9 : Nat) (i3 : Nat) (sl3 : Nat → Int32) (f_23 : Nat → va_E) (H : Heap) (locs : List Loc) (ls : Array Slot), (i3 ≤ 30) → (∀ p, p < i3 → sl3 (p + 30 * to) = (if bt u p = true then 5 else if bt u2 p = true then 7 else sl (p + 30 * to))) → (∀ k, (k < 30 * to ∨ i3 + 30 * to ≤ k) → sl3 k = sl k) → 30 - i3 < n9_9 → f_23 315 = eO 10 [.ref (g 316), .ref (g 317), .ref (g 318), .long ab2, .long be2, .int sn, .ref (g 319), .ref (g 320), .int wn, .ref (g 321), .ref (g 322), .int sa, .int ly, .int rdy, .int fd, .ref (g 323), .ref (g 324), .ref (g 325), .ref (g 326), .ref (g 327), .ref (g 328), .ref (g 329), .ref (g 330), .ref (g 331), .ref (g 332)] → f_23 316 = eI G 2246 ss → f_23 324 = eI G 11 (upd ju to (u ||| u2)) → f_23 325 = eI G 264 dr → f_23 326 = eI G 11 dn → f_23 327 = eI G 330 sl3 → f_23 328 = eI G 44 (upd ax (4 * to) (nI c98)) → (∀ j, j ≠ 327 → f_23 j = f_22 j) → va_P G.1 vwCl (wl g f_23) H → va_S (gA g) s.heap H locs → lv_has ls 10 [(0, .ref (g 315)), (2, .int (nI to)), (5, .int u), (7, .int u2), (8, .int (nI i3))] → W p l e (headSpec (wsT yX11_seats cX11_seats 10 none) ({ frames := 1, cells := 0, slots := 0, locals := 22 })).room s m ([.ref (g 315), .int (nI t), .int (nI to), .int n] : List Value).toArray below meth c H locs 0 0 Q9 (F0 m 174 ls []) := by
                    intro n9_9
                    induction n9_9 with
                    | zero => intro i3 sl3 f_23 H locs ls hi3 h3s h3o hn9_9; exact absurd hn9_9 (Nat.not_lt_zero _)
                    | succ n9_9 ih_9 =>
                      intro i3 sl3 f_23 H locs ls hi3 h3s h3o hn9_9 hmo hss_ hju_ hdr_ hdn_ hsl_ hax_ o_23 hP hS hl
                      refine lv_iload hx hb dX11_seats_174 (lv_at hl 4 rfl) ?_
                      refine lv_bipush (v := 30) hx hb dX11_seats_176 (by decide) ?_
                      refine lv_icmp_ge (tgt := 246) hx hb dX11_seats_178 (by decide) (fun c_178 => ?_) (fun c_178 => ?_)
                      · have k_178 : 30 ≤ i3 := (nI_leI (a := 30) (b := i3) (by omega) (by omega)).mp c_178
                        have hwf : paF n ks (seF opn lf ks d) 30 = (u ||| u2, w2) := by rw [hsd, paF_or, hpd]
                        refine W_q9 hQ9 ?_
                        exact W.vret hx hb hr (fun _ hT9 _ => ⟨⟨f_23, rfl, (⟨(upd ju to (u ||| u2)), sl3, (upd ax (4 * to) (nI c98)), hju_, hsl_, hax_, by rw [hwf, if_neg (show ¬ w2 < ks by omega)]; exact pk_us, fun k hk => pk_un hk, fun p hp => by rw [hwf, if_neg (show ¬ w2 < ks by omega), hsd, hpd]; exact h3s p (by omega), fun k hk => h3o k (by omega), fun z9 => absurd z9 (by rw [hwf]; show ¬ w2 < ks; omega), fun _ => by rw [hsd, hpd, pk_us, ← hsz], fun k hk => pk_un hk, fun j hj => (((((o_23 j (by omega))).trans (o_22 j (by omega))).trans (o_20 j (by omega))).trans (o_19 j (by omega))).trans (o_1 j (by omega))⟩), by rw [hT9]; exact hP⟩, hS.F hT9⟩) hS.2.2 dX11_seats_246
                      · have k_178 : ¬ 30 ≤ i3 := fun z9 => c_178 ((nI_leI (a := 30) (b := i3) (by omega) (by omega)).mpr z9)
                        refine lv_aload_n hx hb dX11_seats_181 rfl (lv_at hl 0 rfl) ?_
                        refine va_get (D := G.1) (ci := 10) (v := .ref (g 327)) (C := RX11) (T := TX11) (N := 25) hx hb hts inlX11 hown hG.1 hP 315 (wl_at (by decide) hmo) rfl 19 (by decide) (hts (.fieldLink RX11 45 "SwornListsModel" "slips" "[I") w_123) (fun _ h9 => h9) rfl dX11_seats_182 ?_
                        refine lv_bipush (v := 30) hx hb dX11_seats_185 (by decide) ?_
                        refine lv_iload_n hx hb dX11_seats_187 rfl (lv_at hl 1 rfl) ?_
                        refine lv_imul hx hb dX11_seats_188 ?_
                        refine my_bei (v := nI (30 * to)) (pk_mul 30 to) ?_
                        refine lv_iload hx hb dX11_seats_189 (lv_at hl 4 rfl) ?_
                        refine lv_iadd hx hb dX11_seats_191 ?_
                        refine my_bei (v := nI (i3 + 30 * to)) ((nI_add (30 * to) i3).trans (congrArg nI (show (30 * to) + i3 = i3 + 30 * to by omega))) ?_
                        refine va_iald hx hb hG.1 hP 327 0 (wl_at (by decide) hsl_) rfl (vp_in_nI (by omega) (by decide)) dX11_seats_192 ?_
                        refine my_bei (v := sl3 (i3 + 30 * to)) (congrArg sl3 (nI_clamp (n := i3 + 30 * to) (by omega))) ?_
                        refine lv_istore (lv' := [(9, .int (sl3 (i3 + 30 * to))), (0, .ref (g 315)), (2, .int (nI to)), (5, .int u), (7, .int u2), (8, .int (nI i3))]) hx hb dX11_seats_193 hl (by decide) rfl (fun ls hl => ?_)
                        refine lv_aload_n hx hb dX11_seats_195 rfl (lv_at hl 1 rfl) ?_
                        refine va_get (D := G.1) (ci := 10) (v := .ref (g 327)) (C := RX11) (T := TX11) (N := 25) hx hb hts inlX11 hown hG.1 hP 315 (wl_at (by decide) hmo) rfl 19 (by decide) (hts (.fieldLink RX11 45 "SwornListsModel" "slips" "[I") w_123) (fun _ h9 => h9) rfl dX11_seats_196 ?_
                        refine lv_bipush (v := 30) hx hb dX11_seats_199 (by decide) ?_
                        refine lv_iload_n hx hb dX11_seats_201 rfl (lv_at hl 2 rfl) ?_
                        refine lv_imul hx hb dX11_seats_202 ?_
                        refine my_bei (v := nI (30 * to)) (pk_mul 30 to) ?_
                        refine lv_iload hx hb dX11_seats_203 (lv_at hl 5 rfl) ?_
                        refine lv_iadd hx hb dX11_seats_205 ?_
                        refine my_bei (v := nI (i3 + 30 * to)) ((nI_add (30 * to) i3).trans (congrArg nI (show (30 * to) + i3 = i3 + 30 * to by omega))) ?_
                        refine lv_iload hx hb dX11_seats_206 (lv_at hl 3 rfl) ?_
                        refine lv_iload hx hb dX11_seats_208 (lv_at hl 5 rfl) ?_
                        refine lv_ishr hx hb dX11_seats_210 ?_
                        refine lv_iconst (v := 1) hx hb dX11_seats_211 (by decide) ?_
                        refine lv_iand hx hb dX11_seats_212 ?_
                        refine lv_iconst (v := 1) hx hb dX11_seats_213 (by decide) ?_
                        refine lv_icmp_ne (tgt := 221) hx hb dX11_seats_214 (by decide) (fun c_214 => ?_) (fun c_214 => ?_)
                        · refine lv_iload hx hb dX11_seats_221 (lv_at hl 4 rfl) ?_
                          refine lv_iload hx hb dX11_seats_223 (lv_at hl 5 rfl) ?_
                          refine lv_ishr hx hb dX11_seats_225 ?_
                          refine lv_iconst (v := 1) hx hb dX11_seats_226 (by decide) ?_
                          refine lv_iand hx hb dX11_seats_227 ?_
                          refine lv_iconst (v := 1) hx hb dX11_seats_228 (by decide) ?_
                          refine lv_icmp_ne (tgt := 237) hx hb dX11_seats_229 (by decide) (fun c_229 => ?_) (fun c_229 => ?_)
                          · refine lv_iload hx hb dX11_seats_237 (lv_at hl 0 rfl) ?_
                            refine va_iast hx hb hG.1 hP (wl_D hg f_23) hS 327 0 (wl_at (by decide) hsl_) rfl (vp_in_nI (by omega) (by decide)) dX11_seats_239 (fun H locs hP _ hS => ?_)
                            have hP := (congrArg (fun z9 => va_P G.1 vwCl ((wl g f_23).set 327 (g 327, eI G 330 ((upd sl3 z9 (sl3 (i3 + 30 * to)))))) H) (show Int32.toNatClampNeg (nI (i3 + 30 * to)) = i3 + 30 * to from nI_clamp (by omega))).mp hP
                            obtain ⟨f_24, hP, e_24, o_24⟩ := b_put (by decide) hP
                            have hsl_ : f_24 327 = eI G 330 (upd sl3 (i3 + 30 * to) (sl3 (i3 + 30 * to))) := e_24
                            refine lv_iinc (v := nI (i3 + 1)) (lv' := [(8, .int (nI (i3 + 1))), (9, .int (sl3 (i3 + 30 * to))), (0, .ref (g 315)), (2, .int (nI to)), (5, .int u), (7, .int u2)]) hx hb dX11_seats_240 hl (k := 5) rfl (nI_add i3 1) (by decide) rfl (fun ls hl => ?_)
                            refine lv_goto (tgt := 174) hx hb dX11_seats_243 (by decide) ?_
                            replace hmo := ((o_24 315 (by decide))).trans hmo
                            replace hss_ := ((o_24 316 (by decide))).trans hss_
                            replace hju_ := ((o_24 324 (by decide))).trans hju_
                            replace hdr_ := ((o_24 325 (by decide))).trans hdr_
                            replace hdn_ := ((o_24 326 (by decide))).trans hdn_
                            replace hax_ := ((o_24 328 (by decide))).trans hax_
                            exact ih_9 (i3 + 1) (upd sl3 (i3 + 30 * to) (sl3 (i3 + 30 * to))) f_24 _ _ _ (by omega) (fun p hp => if e9 : p = i3 then (by rw [e9, pk_us]; exact ((if_neg (fun z => c_214 ((sr_iff (by omega)).mpr z))).trans ((if_neg (fun z => c_229 ((sr_iff (by omega)).mpr z))).trans (h3o (i3 + 30 * to) (by omega)).symm)).symm) else (pk_un (by omega)).trans (h3s p (by omega))) (fun k hk => (pk_un (by omega)).trans (h3o k (by omega))) (by omega) (hmo) (hss_) (hju_) (hdr_) (hdn_) (hsl_) (hax_) (fun j hj => ((o_24 j (by omega))).trans (o_23 j (by omega))) hP hS (lv_sub hl [2, 3, 4, 5, 0] rfl)
                          · refine lv_bipush (v := 7) hx hb dX11_seats_232 (by decide) ?_
                            refine lv_goto (tgt := 239) hx hb dX11_seats_234 (by decide) ?_
                            refine va_iast hx hb hG.1 hP (wl_D hg f_23) hS 327 0 (wl_at (by decide) hsl_) rfl (vp_in_nI (by omega) (by decide)) dX11_seats_239 (fun H locs hP _ hS => ?_)
                            have hP := (congrArg (fun z9 => va_P G.1 vwCl ((wl g f_23).set 327 (g 327, eI G 330 ((upd sl3 z9 7)))) H) (show Int32.toNatClampNeg (nI (i3 + 30 * to)) = i3 + 30 * to from nI_clamp (by omega))).mp hP
                            obtain ⟨f_25, hP, e_25, o_25⟩ := b_put (by decide) hP
                            have hsl_ : f_25 327 = eI G 330 (upd sl3 (i3 + 30 * to) 7) := e_25
                            refine lv_iinc (v := nI (i3 + 1)) (lv' := [(8, .int (nI (i3 + 1))), (9, .int (sl3 (i3 + 30 * to))), (0, .ref (g 315)), (2, .int (nI to)), (5, .int u), (7, .int u2)]) hx hb dX11_seats_240 hl (k := 5) rfl (nI_add i3 1) (by decide) rfl (fun ls hl => ?_)
                            refine lv_goto (tgt := 174) hx hb dX11_seats_243 (by decide) ?_
                            replace hmo := ((o_25 315 (by decide))).trans hmo
                            replace hss_ := ((o_25 316 (by decide))).trans hss_
                            replace hju_ := ((o_25 324 (by decide))).trans hju_
                            replace hdr_ := ((o_25 325 (by decide))).trans hdr_
                            replace hdn_ := ((o_25 326 (by decide))).trans hdn_
                            replace hax_ := ((o_25 328 (by decide))).trans hax_
                            exact ih_9 (i3 + 1) (upd sl3 (i3 + 30 * to) 7) f_25 _ _ _ (by omega) (fun p hp => if e9 : p = i3 then (by rw [e9, pk_us]; exact ((if_neg (fun z => c_214 ((sr_iff (by omega)).mpr z))).trans (if_pos ((sr_iff (by omega)).mp c_229))).symm) else (pk_un (by omega)).trans (h3s p (by omega))) (fun k hk => (pk_un (by omega)).trans (h3o k (by omega))) (by omega) (hmo) (hss_) (hju_) (hdr_) (hdn_) (hsl_) (hax_) (fun j hj => ((o_25 j (by omega))).trans (o_23 j (by omega))) hP hS (lv_sub hl [2, 3, 4, 5, 0] rfl)
                        · refine lv_iconst (v := 5) hx hb dX11_seats_217 (by decide) ?_
                          refine lv_goto (tgt := 239) hx hb dX11_seats_218 (by decide) ?_
                          refine va_iast hx hb hG.1 hP (wl_D hg f_23) hS 327 0 (wl_at (by decide) hsl_) rfl (vp_in_nI (by omega) (by decide)) dX11_seats_239 (fun H locs hP _ hS => ?_)
                          have hP := (congrArg (fun z9 => va_P G.1 vwCl ((wl g f_23).set 327 (g 327, eI G 330 ((upd sl3 z9 5)))) H) (show Int32.toNatClampNeg (nI (i3 + 30 * to)) = i3 + 30 * to from nI_clamp (by omega))).mp hP
                          obtain ⟨f_26, hP, e_26, o_26⟩ := b_put (by decide) hP
                          have hsl_ : f_26 327 = eI G 330 (upd sl3 (i3 + 30 * to) 5) := e_26
                          refine lv_iinc (v := nI (i3 + 1)) (lv' := [(8, .int (nI (i3 + 1))), (9, .int (sl3 (i3 + 30 * to))), (0, .ref (g 315)), (2, .int (nI to)), (5, .int u), (7, .int u2)]) hx hb dX11_seats_240 hl (k := 5) rfl (nI_add i3 1) (by decide) rfl (fun ls hl => ?_)
                          refine lv_goto (tgt := 174) hx hb dX11_seats_243 (by decide) ?_
                          replace hmo := ((o_26 315 (by decide))).trans hmo
                          replace hss_ := ((o_26 316 (by decide))).trans hss_
                          replace hju_ := ((o_26 324 (by decide))).trans hju_
                          replace hdr_ := ((o_26 325 (by decide))).trans hdr_
                          replace hdn_ := ((o_26 326 (by decide))).trans hdn_
                          replace hax_ := ((o_26 328 (by decide))).trans hax_
                          exact ih_9 (i3 + 1) (upd sl3 (i3 + 30 * to) 5) f_26 _ _ _ (by omega) (fun p hp => if e9 : p = i3 then (by rw [e9, pk_us]; exact (if_pos ((sr_iff (by omega)).mp c_214)).symm) else (pk_un (by omega)).trans (h3s p (by omega))) (fun k hk => (pk_un (by omega)).trans (h3o k (by omega))) (by omega) (hmo) (hss_) (hju_) (hdr_) (hdn_) (hsl_) (hax_) (fun j hj => ((o_26 j (by omega))).trans (o_23 j (by omega))) hP hS (lv_sub hl [2, 3, 4, 5, 0] rfl)
                  exact key9 (30 + 1) 0 sl f_22 _ _ _ (Nat.zero_le _) (fun p hp => absurd hp (Nat.not_lt_zero _)) (fun k _ => rfl) (by omega) (hmo) (hss_) (hju_) (hdr_) (hdn_) (hsl_) (hax_) (fun j _ => rfl) hP hS (lv_sub hl [1, 3, 6, 8, 0] rfl)
                · have k_136 : ¬ ks ≤ w2 := fun z9 => c_136 ((nI_leI (a := ks) (b := w2) (by omega) (by omega)).mpr z9)
                  refine lv_aload_n hx hb dX11_seats_139 rfl (lv_at hl 0 rfl) ?_
                  refine va_get (D := G.1) (ci := 10) (v := .ref (g 324)) (C := RX11) (T := TX11) (N := 25) hx hb hts inlX11 hown hG.1 hP 315 (wl_at (by decide) hmo) rfl 16 (by decide) (hts (.fieldLink RX11 36 "SwornListsModel" "juries" "[I") w_120) (fun _ h9 => h9) rfl dX11_seats_140 ?_
                  refine lv_iload_n hx hb dX11_seats_143 rfl (lv_at hl 2 rfl) ?_
                  refine lv_iconst (v := 0) hx hb dX11_seats_144 (by decide) ?_
                  refine va_iast hx hb hG.1 hP (wl_D hg f_19) hS 324 0 (wl_at (by decide) hju_) rfl (vp_in_nI (by omega) (by decide)) dX11_seats_145 (fun H locs hP _ hS => ?_)
                  have hP := (congrArg (fun z9 => va_P G.1 vwCl ((wl g f_19).set 324 (g 324, eI G 11 ((upd ju z9 0)))) H) (show Int32.toNatClampNeg (nI to) = to from nI_clamp (by omega))).mp hP
                  obtain ⟨f_27, hP, e_27, o_27⟩ := b_put (by decide) hP
                  have hju_ : f_27 324 = eI G 11 (upd ju to 0) := e_27
                  have hwf : paF n ks (seF opn lf ks d) 30 = (u ||| u2, w2) := by rw [hsd, paF_or, hpd]
                  replace hsl_ := ((o_27 327 (by decide))).trans hsl_
                  replace hax_ := ((o_27 328 (by decide))).trans hax_
                  refine W_q9 hQ9 ?_
                  exact W.vret hx hb hr (fun _ hT9 _ => ⟨⟨f_27, rfl, (⟨(upd ju to 0), sl, ax, hju_, hsl_, hax_, by rw [hwf, if_pos (show w2 < ks by omega)]; exact pk_us, fun k hk => pk_un hk, fun p hp => by rw [hwf, if_pos (show w2 < ks by omega)], fun k _ => rfl, fun _ => rfl, fun z9 => absurd (show (paF n ks (seF opn lf ks d) 30).2 < ks by rw [hwf]; show w2 < ks; omega) z9, fun k _ => rfl, fun j hj => (((o_27 j (by omega))).trans (o_19 j (by omega))).trans (o_1 j (by omega))⟩), by rw [hT9]; exact hP⟩, hS.F hT9⟩) hS.2.2 dX11_seats_146
              · have k_94 : ¬ 30 ≤ i2 := fun z9 => c_94 ((nI_leI (a := 30) (b := i2) (by omega) (by omega)).mpr z9)
                refine lv_iload hx hb dX11_seats_97 (lv_at hl 6 rfl) ?_
                refine lv_iload hx hb dX11_seats_99 (lv_at hl 4 rfl) ?_
                refine lv_icmp_ge (tgt := 132) hx hb dX11_seats_101 (by decide) (fun c_101 => ?_) (fun c_101 => ?_)
                · have k_101 : ks ≤ w2 := (nI_leI (a := ks) (b := w2) (by omega) (by omega)).mp c_101
                  have hpd : paF n ks (0, w) 30 = (u2, w2) := by rw [show (30 : Nat) = i2 + (30 - i2) by omega, paF_stop (by rw [hpa]; show ¬ w2 < ks; omega) _]; exact hpa
                  refine lv_iload hx hb dX11_seats_132 (lv_at hl 6 rfl) ?_
                  refine lv_iload hx hb dX11_seats_134 (lv_at hl 4 rfl) ?_
                  refine lv_icmp_ge (tgt := 147) hx hb dX11_seats_136 (by decide) (fun c_136 => ?_) (fun c_136 => ?_)
                  · have k_136 : ks ≤ w2 := (nI_leI (a := ks) (b := w2) (by omega) (by omega)).mp c_136
                    refine lv_aload_n hx hb dX11_seats_147 rfl (lv_at hl 0 rfl) ?_
                    refine va_get (D := G.1) (ci := 10) (v := .ref (g 324)) (C := RX11) (T := TX11) (N := 25) hx hb hts inlX11 hown hG.1 hP 315 (wl_at (by decide) hmo) rfl 16 (by decide) (hts (.fieldLink RX11 36 "SwornListsModel" "juries" "[I") w_120) (fun _ h9 => h9) rfl dX11_seats_148 ?_
                    refine lv_iload_n hx hb dX11_seats_151 rfl (lv_at hl 2 rfl) ?_
                    refine lv_iload hx hb dX11_seats_152 (lv_at hl 5 rfl) ?_
                    refine lv_iload hx hb dX11_seats_154 (lv_at hl 7 rfl) ?_
                    refine lv_ior hx hb dX11_seats_156 ?_
                    refine va_iast hx hb hG.1 hP (wl_D hg f_19) hS 324 0 (wl_at (by decide) hju_) rfl (vp_in_nI (by omega) (by decide)) dX11_seats_157 (fun H locs hP _ hS => ?_)
                    have hP := (congrArg (fun z9 => va_P G.1 vwCl ((wl g f_19).set 324 (g 324, eI G 11 ((upd ju z9 (u ||| u2))))) H) (show Int32.toNatClampNeg (nI to) = to from nI_clamp (by omega))).mp hP
                    obtain ⟨f_28, hP, e_28, o_28⟩ := b_put (by decide) hP
                    have hju_ : f_28 324 = eI G 11 (upd ju to (u ||| u2)) := e_28
                    refine lv_aload_n hx hb dX11_seats_158 rfl (lv_at hl 0 rfl) ?_
                    replace hmo := ((o_28 315 (by decide))).trans hmo
                    refine va_get (D := G.1) (ci := 10) (v := .ref (g 328)) (C := RX11) (T := TX11) (N := 25) hx hb hts inlX11 hown hG.1 hP 315 (wl_at (by decide) hmo) rfl 20 (by decide) (hts (.fieldLink RX11 48 "SwornListsModel" "abouts" "[I") w_124) (fun _ h9 => h9) rfl dX11_seats_159 ?_
                    refine lv_iconst (v := 4) hx hb dX11_seats_162 (by decide) ?_
                    refine lv_iload_n hx hb dX11_seats_163 rfl (lv_at hl 2 rfl) ?_
                    refine lv_imul hx hb dX11_seats_164 ?_
                    refine my_bei (v := nI (4 * to)) (pk_mul 4 to) ?_
                    refine lv_iload hx hb dX11_seats_165 (lv_at hl 7 rfl) ?_
                    refine rd_calli (va_runS (As := [.int u2]) (rest := [.int (nI (4 * to)), .ref (g 328)]) ⟨hx, hb, hml, hown, hts⟩ (r_sizeOf l G g hg f_28 u2  ) (my_cwS hts ok_X11_sizeOf w_584 rfl rfl ⟨Nat.le_of_ble_eq_true rfl, Nat.le_of_ble_eq_true rfl⟩) ⟨bP.blind, fun U hU hW => ⟨rfl, by rw [hU]; exact hP, kG.warm hW hG⟩⟩ rfl rfl hl.1 rfl (lv_room (Nat.le_of_ble_eq_true rfl)) dX11_seats_167 ⟨Nat.le_of_ble_eq_true rfl, Nat.le_of_ble_eq_true rfl⟩) (fun r hr9 => ?_)
                    obtain ⟨c910, rfl, hx_29_0, hx_29_1⟩ := hr9
                    have hsz := size_ok (x := u2) (by have h9 := paF_hi (pas := n) (ks := ks) (c := w) 30 (by omega); rw [hpd] at h9; exact h9) hx_29_1
                    replace hax_ := ((o_28 328 (by decide))).trans hax_
                    refine va_iast hx hb hG.1 hP (wl_D hg f_28) hS 328 0 (wl_at (by decide) hax_) rfl (vp_in_nI (by omega) (by decide)) dX11_seats_170 (fun H locs hP _ hS => ?_)
                    have hP := (congrArg (fun z9 => va_P G.1 vwCl ((wl g f_28).set 328 (g 328, eI G 44 ((upd ax z9 (nI c910))))) H) (show Int32.toNatClampNeg (nI (4 * to)) = 4 * to from nI_clamp (by omega))).mp hP
                    obtain ⟨f_30, hP, e_30, o_30⟩ := b_put (by decide) hP
                    have hax_ : f_30 328 = eI G 44 (upd ax (4 * to) (nI c910)) := e_30
                    refine lv_iconst (v := 0) hx hb dX11_seats_171 (by decide) ?_
                    refine lv_istore (lv' := [(8, .int 0), (0, .ref (g 315)), (1, .int (nI t)), (2, .int (nI to)), (3, .int n), (4, .int (nI ks)), (5, .int u), (6, .int (nI w2)), (7, .int u2)]) hx hb dX11_seats_172 hl (by decide) rfl (fun ls hl => ?_)
                    replace hmo := ((o_30 315 (by decide))).trans hmo
                    replace hss_ := ((o_30 316 (by decide)).trans ((o_28 316 (by decide)))).trans hss_
                    replace hju_ := ((o_30 324 (by decide))).trans hju_
                    replace hdr_ := ((o_30 325 (by decide)).trans ((o_28 325 (by decide)))).trans hdr_
                    replace hdn_ := ((o_30 326 (by decide)).trans ((o_28 326 (by decide)))).trans hdn_
                    replace hsl_ := ((o_30 327 (by decide)).trans ((o_28 327 (by decide)))).trans hsl_
                    have key11 : ∀ (n9_11 : Nat) (i3 : Nat) (sl3 : Nat → Int32) (f_31 : Nat → va_E) (H : Heap) (locs : List Loc) (ls : Array Slot), (i3 ≤ 30) → (∀ p, p < i3 → sl3 (p + 30 * to) = (if bt u p = true then 5 else if bt u2 p = true then 7 else sl (p + 30 * to))) → (∀ k, (k < 30 * to ∨ i3 + 30 * to ≤ k) → sl3 k = sl k) → 30 - i3 < n9_11 → f_31 315 = eO 10 [.ref (g 316), .ref (g 317), .ref (g 318), .long ab2, .long be2, .int sn, .ref (g 319), .ref (g 320), .int wn, .ref (g 321), .ref (g 322), .int sa, .int ly, .int rdy, .int fd, .ref (g 323), .ref (g 324), .ref (g 325), .ref (g 326), .ref (g 327), .ref (g 328), .ref (g 329), .ref (g 330), .ref (g 331), .ref (g 332)] → f_31 316 = eI G 2246 ss → f_31 324 = eI G 11 (upd ju to (u ||| u2)) → f_31 325 = eI G 264 dr → f_31 326 = eI G 11 dn → f_31 327 = eI G 330 sl3 → f_31 328 = eI G 44 (upd ax (4 * to) (nI c910)) → (∀ j, j ≠ 327 → f_31 j = f_30 j) → va_P G.1 vwCl (wl g f_31) H → va_S (gA g) s.heap H locs → lv_has ls 10 [(0, .ref (g 315)), (2, .int (nI to)), (5, .int u), (7, .int u2), (8, .int (nI i3))] → W p l e (headSpec (wsT yX11_seats cX11_seats 10 none) ({ frames := 1, cells := 0, slots := 0, locals := 22 })).room s m ([.ref (g 315), .int (nI t), .int (nI to), .int n] : List Value).toArray below meth c H locs 0 0 Q9 (F0 m 174 ls []) := by
                      intro n9_11
                      induction n9_11 with
                      | zero => intro i3 sl3 f_31 H locs ls hi3 h3s h3o hn9_11; exact absurd hn9_11 (Nat.not_lt_zero _)
                      | succ n9_11 ih_11 =>
                        intro i3 sl3 f_31 H locs ls hi3 h3s h3o hn9_11 hmo hss_ hju_ hdr_ hdn_ hsl_ hax_ o_31 hP hS hl
                        refine lv_iload hx hb dX11_seats_174 (lv_at hl 4 rfl) ?_
                        refine lv_bipush (v := 30) hx hb dX11_seats_176 (by decide) ?_
                        refine lv_icmp_ge (tgt := 246) hx hb dX11_seats_178 (by decide) (fun c_178 => ?_) (fun c_178 => ?_)
                        · have k_178 : 30 ≤ i3 := (nI_leI (a := 30) (b := i3) (by omega) (by omega)).mp c_178
                          have hwf : paF n ks (seF opn lf ks d) 30 = (u ||| u2, w2) := by rw [hsd, paF_or, hpd]
                          refine W_q9 hQ9 ?_
                          exact W.vret hx hb hr (fun _ hT9 _ => ⟨⟨f_31, rfl, (⟨(upd ju to (u ||| u2)), sl3, (upd ax (4 * to) (nI c910)), hju_, hsl_, hax_, by rw [hwf, if_neg (show ¬ w2 < ks by omega)]; exact pk_us, fun k hk => pk_un hk, fun p hp => by rw [hwf, if_neg (show ¬ w2 < ks by omega), hsd, hpd]; exact h3s p (by omega), fun k hk => h3o k (by omega), fun z9 => absurd z9 (by rw [hwf]; show ¬ w2 < ks; omega), fun _ => by rw [hsd, hpd, pk_us, ← hsz], fun k hk => pk_un hk, fun j hj => (((((o_31 j (by omega))).trans (o_30 j (by omega))).trans (o_28 j (by omega))).trans (o_19 j (by omega))).trans (o_1 j (by omega))⟩), by rw [hT9]; exact hP⟩, hS.F hT9⟩) hS.2.2 dX11_seats_246
                        · have k_178 : ¬ 30 ≤ i3 := fun z9 => c_178 ((nI_leI (a := 30) (b := i3) (by omega) (by omega)).mpr z9)
                          refine lv_aload_n hx hb dX11_seats_181 rfl (lv_at hl 0 rfl) ?_
                          refine va_get (D := G.1) (ci := 10) (v := .ref (g 327)) (C := RX11) (T := TX11) (N := 25) hx hb hts inlX11 hown hG.1 hP 315 (wl_at (by decide) hmo) rfl 19 (by decide) (hts (.fieldLink RX11 45 "SwornListsModel" "slips" "[I") w_123) (fun _ h9 => h9) rfl dX11_seats_182 ?_
                          refine lv_bipush (v := 30) hx hb dX11_seats_185 (by decide) ?_
                          refine lv_iload_n hx hb dX11_seats_187 rfl (lv_at hl 1 rfl) ?_
                          refine lv_imul hx hb dX11_seats_188 ?_
                          refine my_bei (v := nI (30 * to)) (pk_mul 30 to) ?_
                          refine lv_iload hx hb dX11_seats_189 (lv_at hl 4 rfl) ?_
                          refine lv_iadd hx hb dX11_seats_191 ?_
                          refine my_bei (v := nI (i3 + 30 * to)) ((nI_add (30 * to) i3).trans (congrArg nI (show (30 * to) + i3 = i3 + 30 * to by omega))) ?_
                          refine va_iald hx hb hG.1 hP 327 0 (wl_at (by decide) hsl_) rfl (vp_in_nI (by omega) (by decide)) dX11_seats_192 ?_
                          refine my_bei (v := sl3 (i3 + 30 * to)) (congrArg sl3 (nI_clamp (n := i3 + 30 * to) (by omega))) ?_
                          refine lv_istore (lv' := [(9, .int (sl3 (i3 + 30 * to))), (0, .ref (g 315)), (2, .int (nI to)), (5, .int u), (7, .int u2), (8, .int (nI i3))]) hx hb dX11_seats_193 hl (by decide) rfl (fun ls hl => ?_)
                          refine lv_aload_n hx hb dX11_seats_195 rfl (lv_at hl 1 rfl) ?_
                          refine va_get (D := G.1) (ci := 10) (v := .ref (g 327)) (C := RX11) (T := TX11) (N := 25) hx hb hts inlX11 hown hG.1 hP 315 (wl_at (by decide) hmo) rfl 19 (by decide) (hts (.fieldLink RX11 45 "SwornListsModel" "slips" "[I") w_123) (fun _ h9 => h9) rfl dX11_seats_196 ?_
                          refine lv_bipush (v := 30) hx hb dX11_seats_199 (by decide) ?_
                          refine lv_iload_n hx hb dX11_seats_201 rfl (lv_at hl 2 rfl) ?_
                          refine lv_imul hx hb dX11_seats_202 ?_
                          refine my_bei (v := nI (30 * to)) (pk_mul 30 to) ?_
                          refine lv_iload hx hb dX11_seats_203 (lv_at hl 5 rfl) ?_
                          refine lv_iadd hx hb dX11_seats_205 ?_
                          refine my_bei (v := nI (i3 + 30 * to)) ((nI_add (30 * to) i3).trans (congrArg nI (show (30 * to) + i3 = i3 + 30 * to by omega))) ?_
                          refine lv_iload hx hb dX11_seats_206 (lv_at hl 3 rfl) ?_
                          refine lv_iload hx hb dX11_seats_208 (lv_at hl 5 rfl) ?_
                          refine lv_ishr hx hb dX11_seats_210 ?_
                          refine lv_iconst (v := 1) hx hb dX11_seats_211 (by decide) ?_
                          refine lv_iand hx hb dX11_seats_212 ?_
                          refine lv_iconst (v := 1) hx hb dX11_seats_213 (by decide) ?_
                          refine lv_icmp_ne (tgt := 221) hx hb dX11_seats_214 (by decide) (fun c_214 => ?_) (fun c_214 => ?_)
                          · refine lv_iload hx hb dX11_seats_221 (lv_at hl 4 rfl) ?_
                            refine lv_iload hx hb dX11_seats_223 (lv_at hl 5 rfl) ?_
                            refine lv_ishr hx hb dX11_seats_225 ?_
                            refine lv_iconst (v := 1) hx hb dX11_seats_226 (by decide) ?_
                            refine lv_iand hx hb dX11_seats_227 ?_
                            refine lv_iconst (v := 1) hx hb dX11_seats_228 (by decide) ?_
                            refine lv_icmp_ne (tgt := 237) hx hb dX11_seats_229 (by decide) (fun c_229 => ?_) (fun c_229 => ?_)
                            · refine lv_iload hx hb dX11_seats_237 (lv_at hl 0 rfl) ?_
                              refine va_iast hx hb hG.1 hP (wl_D hg f_31) hS 327 0 (wl_at (by decide) hsl_) rfl (vp_in_nI (by omega) (by decide)) dX11_seats_239 (fun H locs hP _ hS => ?_)
                              have hP := (congrArg (fun z9 => va_P G.1 vwCl ((wl g f_31).set 327 (g 327, eI G 330 ((upd sl3 z9 (sl3 (i3 + 30 * to)))))) H) (show Int32.toNatClampNeg (nI (i3 + 30 * to)) = i3 + 30 * to from nI_clamp (by omega))).mp hP
                              obtain ⟨f_32, hP, e_32, o_32⟩ := b_put (by decide) hP
                              have hsl_ : f_32 327 = eI G 330 (upd sl3 (i3 + 30 * to) (sl3 (i3 + 30 * to))) := e_32
                              refine lv_iinc (v := nI (i3 + 1)) (lv' := [(8, .int (nI (i3 + 1))), (9, .int (sl3 (i3 + 30 * to))), (0, .ref (g 315)), (2, .int (nI to)), (5, .int u), (7, .int u2)]) hx hb dX11_seats_240 hl (k := 5) rfl (nI_add i3 1) (by decide) rfl (fun ls hl => ?_)
                              refine lv_goto (tgt := 174) hx hb dX11_seats_243 (by decide) ?_
                              replace hmo := ((o_32 315 (by decide))).trans hmo
                              replace hss_ := ((o_32 316 (by decide))).trans hss_
                              replace hju_ := ((o_32 324 (by decide))).trans hju_
                              replace hdr_ := ((o_32 325 (by decide))).trans hdr_
                              replace hdn_ := ((o_32 326 (by decide))).trans hdn_
                              replace hax_ := ((o_32 328 (by decide))).trans hax_
                              exact ih_11 (i3 + 1) (upd sl3 (i3 + 30 * to) (sl3 (i3 + 30 * to))) f_32 _ _ _ (by omega) (fun p hp => if e9 : p = i3 then (by rw [e9, pk_us]; exact ((if_neg (fun z => c_214 ((sr_iff (by omega)).mpr z))).trans ((if_neg (fun z => c_229 ((sr_iff (by omega)).mpr z))).trans (h3o (i3 + 30 * to) (by omega)).symm)).symm) else (pk_un (by omega)).trans (h3s p (by omega))) (fun k hk => (pk_un (by omega)).trans (h3o k (by omega))) (by omega) (hmo) (hss_) (hju_) (hdr_) (hdn_) (hsl_) (hax_) (fun j hj => ((o_32 j (by omega))).trans (o_31 j (by omega))) hP hS (lv_sub hl [2, 3, 4, 5, 0] rfl)
                            · refine lv_bipush (v := 7) hx hb dX11_seats_232 (by decide) ?_
                              refine lv_goto (tgt := 239) hx hb dX11_seats_234 (by decide) ?_
                              refine va_iast hx hb hG.1 hP (wl_D hg f_31) hS 327 0 (wl_at (by decide) hsl_) rfl (vp_in_nI (by omega) (by decide)) dX11_seats_239 (fun H locs hP _ hS => ?_)
                              have hP := (congrArg (fun z9 => va_P G.1 vwCl ((wl g f_31).set 327 (g 327, eI G 330 ((upd sl3 z9 7)))) H) (show Int32.toNatClampNeg (nI (i3 + 30 * to)) = i3 + 30 * to from nI_clamp (by omega))).mp hP
                              obtain ⟨f_33, hP, e_33, o_33⟩ := b_put (by decide) hP
                              have hsl_ : f_33 327 = eI G 330 (upd sl3 (i3 + 30 * to) 7) := e_33
                              refine lv_iinc (v := nI (i3 + 1)) (lv' := [(8, .int (nI (i3 + 1))), (9, .int (sl3 (i3 + 30 * to))), (0, .ref (g 315)), (2, .int (nI to)), (5, .int u), (7, .int u2)]) hx hb dX11_seats_240 hl (k := 5) rfl (nI_add i3 1) (by decide) rfl (fun ls hl => ?_)
                              refine lv_goto (tgt := 174) hx hb dX11_seats_243 (by decide) ?_
                              replace hmo := ((o_33 315 (by decide))).trans hmo
                              replace hss_ := ((o_33 316 (by decide))).trans hss_
                              replace hju_ := ((o_33 324 (by decide))).trans hju_
                              replace hdr_ := ((o_33 325 (by decide))).trans hdr_
                              replace hdn_ := ((o_33 326 (by decide))).trans hdn_
                              replace hax_ := ((o_33 328 (by decide))).trans hax_
                              exact ih_11 (i3 + 1) (upd sl3 (i3 + 30 * to) 7) f_33 _ _ _ (by omega) (fun p hp => if e9 : p = i3 then (by rw [e9, pk_us]; exact ((if_neg (fun z => c_214 ((sr_iff (by omega)).mpr z))).trans (if_pos ((sr_iff (by omega)).mp c_229))).symm) else (pk_un (by omega)).trans (h3s p (by omega))) (fun k hk => (pk_un (by omega)).trans (h3o k (by omega))) (by omega) (hmo) (hss_) (hju_) (hdr_) (hdn_) (hsl_) (hax_) (fun j hj => ((o_33 j (by omega))).trans (o_31 j (by omega))) hP hS (lv_sub hl [2, 3, 4, 5, 0] rfl)
                          · refine lv_iconst (v := 5) hx hb dX11_seats_217 (by decide) ?_
                            refine lv_goto (tgt := 239) hx hb dX11_seats_218 (by decide) ?_
                            refine va_iast hx hb hG.1 hP (wl_D hg f_31) hS 327 0 (wl_at (by decide) hsl_) rfl (vp_in_nI (by omega) (by decide)) dX11_seats_239 (fun H locs hP _ hS => ?_)
                            have hP := (congrArg (fun z9 => va_P G.1 vwCl ((wl g f_31).set 327 (g 327, eI G 330 ((upd sl3 z9 5)))) H) (show Int32.toNatClampNeg (nI (i3 + 30 * to)) = i3 + 30 * to from nI_clamp (by omega))).mp hP
                            obtain ⟨f_34, hP, e_34, o_34⟩ := b_put (by decide) hP
                            have hsl_ : f_34 327 = eI G 330 (upd sl3 (i3 + 30 * to) 5) := e_34
                            refine lv_iinc (v := nI (i3 + 1)) (lv' := [(8, .int (nI (i3 + 1))), (9, .int (sl3 (i3 + 30 * to))), (0, .ref (g 315)), (2, .int (nI to)), (5, .int u), (7, .int u2)]) hx hb dX11_seats_240 hl (k := 5) rfl (nI_add i3 1) (by decide) rfl (fun ls hl => ?_)
                            refine lv_goto (tgt := 174) hx hb dX11_seats_243 (by decide) ?_
                            replace hmo := ((o_34 315 (by decide))).trans hmo
                            replace hss_ := ((o_34 316 (by decide))).trans hss_
                            replace hju_ := ((o_34 324 (by decide))).trans hju_
                            replace hdr_ := ((o_34 325 (by decide))).trans hdr_
                            replace hdn_ := ((o_34 326 (by decide))).trans hdn_
                            replace hax_ := ((o_34 328 (by decide))).trans hax_
                            exact ih_11 (i3 + 1) (upd sl3 (i3 + 30 * to) 5) f_34 _ _ _ (by omega) (fun p hp => if e9 : p = i3 then (by rw [e9, pk_us]; exact (if_pos ((sr_iff (by omega)).mp c_214)).symm) else (pk_un (by omega)).trans (h3s p (by omega))) (fun k hk => (pk_un (by omega)).trans (h3o k (by omega))) (by omega) (hmo) (hss_) (hju_) (hdr_) (hdn_) (hsl_) (hax_) (fun j hj => ((o_34 j (by omega))).trans (o_31 j (by omega))) hP hS (lv_sub hl [2, 3, 4, 5, 0] rfl)
                    exact key11 (30 + 1) 0 sl f_30 _ _ _ (Nat.zero_le _) (fun p hp => absurd hp (Nat.not_lt_zero _)) (fun k _ => rfl) (by omega) (hmo) (hss_) (hju_) (hdr_) (hdn_) (hsl_) (hax_) (fun j _ => rfl) hP hS (lv_sub hl [1, 3, 6, 8, 0] rfl)
                  · have k_136 : ¬ ks ≤ w2 := fun z9 => c_136 ((nI_leI (a := ks) (b := w2) (by omega) (by omega)).mpr z9)
                    refine lv_aload_n hx hb dX11_seats_139 rfl (lv_at hl 0 rfl) ?_
                    refine va_get (D := G.1) (ci := 10) (v := .ref (g 324)) (C := RX11) (T := TX11) (N := 25) hx hb hts inlX11 hown hG.1 hP 315 (wl_at (by decide) hmo) rfl 16 (by decide) (hts (.fieldLink RX11 36 "SwornListsModel" "juries" "[I") w_120) (fun _ h9 => h9) rfl dX11_seats_140 ?_
                    refine lv_iload_n hx hb dX11_seats_143 rfl (lv_at hl 2 rfl) ?_
                    refine lv_iconst (v := 0) hx hb dX11_seats_144 (by decide) ?_
                    refine va_iast hx hb hG.1 hP (wl_D hg f_19) hS 324 0 (wl_at (by decide) hju_) rfl (vp_in_nI (by omega) (by decide)) dX11_seats_145 (fun H locs hP _ hS => ?_)
                    have hP := (congrArg (fun z9 => va_P G.1 vwCl ((wl g f_19).set 324 (g 324, eI G 11 ((upd ju z9 0)))) H) (show Int32.toNatClampNeg (nI to) = to from nI_clamp (by omega))).mp hP
                    obtain ⟨f_35, hP, e_35, o_35⟩ := b_put (by decide) hP
                    have hju_ : f_35 324 = eI G 11 (upd ju to 0) := e_35
                    have hwf : paF n ks (seF opn lf ks d) 30 = (u ||| u2, w2) := by rw [hsd, paF_or, hpd]
                    replace hsl_ := ((o_35 327 (by decide))).trans hsl_
                    replace hax_ := ((o_35 328 (by decide))).trans hax_
                    refine W_q9 hQ9 ?_
                    exact W.vret hx hb hr (fun _ hT9 _ => ⟨⟨f_35, rfl, (⟨(upd ju to 0), sl, ax, hju_, hsl_, hax_, by rw [hwf, if_pos (show w2 < ks by omega)]; exact pk_us, fun k hk => pk_un hk, fun p hp => by rw [hwf, if_pos (show w2 < ks by omega)], fun k _ => rfl, fun _ => rfl, fun z9 => absurd (show (paF n ks (seF opn lf ks d) 30).2 < ks by rw [hwf]; show w2 < ks; omega) z9, fun k _ => rfl, fun j hj => (((o_35 j (by omega))).trans (o_19 j (by omega))).trans (o_1 j (by omega))⟩), by rw [hT9]; exact hP⟩, hS.F hT9⟩) hS.2.2 dX11_seats_146
                · have k_101 : ¬ ks ≤ w2 := fun z9 => c_101 ((nI_leI (a := ks) (b := w2) (by omega) (by omega)).mpr z9)
                  refine lv_iload_n hx hb dX11_seats_104 rfl (lv_at hl 3 rfl) ?_
                  refine lv_iload hx hb dX11_seats_105 (lv_at hl 8 rfl) ?_
                  refine lv_ishr hx hb dX11_seats_107 ?_
                  refine lv_iconst (v := 1) hx hb dX11_seats_108 (by decide) ?_
                  refine lv_iand hx hb dX11_seats_109 ?_
                  refine lv_iconst (v := 1) hx hb dX11_seats_110 (by decide) ?_
                  refine lv_icmp_ne (tgt := 126) hx hb dX11_seats_111 (by decide) (fun c_111 => ?_) (fun c_111 => ?_)
                  · refine lv_iinc (v := nI (i2 + 1)) (lv' := [(8, .int (nI (i2 + 1))), (0, .ref (g 315)), (1, .int (nI t)), (2, .int (nI to)), (3, .int n), (4, .int (nI ks)), (5, .int u), (6, .int (nI w2)), (7, .int u2)]) hx hb dX11_seats_126 hl (k := 8) rfl (nI_add i2 1) (by decide) rfl (fun ls hl => ?_)
                    refine lv_goto (tgt := 90) hx hb dX11_seats_129 (by decide) ?_
                    exact ih_7 (i2 + 1) u2 w2 f_19 _ _ _ (by omega) ((paF_n (fun z => c_111 ((sr_iff (by omega)).mpr z.2))).trans hpa) (by omega) (by omega) (hmo) (hss_) (hju_) (hdr_) (hdn_) (hsl_) (hax_) (fun j hj => (o_19 j (by omega))) hP hS (lv_sub hl [1, 2, 3, 4, 5, 6, 7, 8, 0] rfl)
                  · refine lv_iload hx hb dX11_seats_114 (lv_at hl 7 rfl) ?_
                    refine lv_iconst (v := 1) hx hb dX11_seats_116 (by decide) ?_
                    refine lv_iload hx hb dX11_seats_117 (lv_at hl 8 rfl) ?_
                    refine lv_ishl hx hb dX11_seats_119 ?_
                    refine lv_ior hx hb dX11_seats_120 ?_
                    refine lv_istore (lv' := [(7, .int (u2 ||| (1 <<< ((nI i2) &&& 31)))), (0, .ref (g 315)), (1, .int (nI t)), (2, .int (nI to)), (3, .int n), (4, .int (nI ks)), (5, .int u), (6, .int (nI w2)), (8, .int (nI i2))]) hx hb dX11_seats_121 hl (by decide) rfl (fun ls hl => ?_)
                    refine lv_iinc (v := nI (w2 + 1)) (lv' := [(6, .int (nI (w2 + 1))), (7, .int (u2 ||| (1 <<< ((nI i2) &&& 31)))), (0, .ref (g 315)), (1, .int (nI t)), (2, .int (nI to)), (3, .int n), (4, .int (nI ks)), (5, .int u), (8, .int (nI i2))]) hx hb dX11_seats_123 hl (k := 7) rfl (nI_add w2 1) (by decide) rfl (fun ls hl => ?_)
                    refine lv_iinc (v := nI (i2 + 1)) (lv' := [(8, .int (nI (i2 + 1))), (6, .int (nI (w2 + 1))), (7, .int (u2 ||| (1 <<< ((nI i2) &&& 31)))), (0, .ref (g 315)), (1, .int (nI t)), (2, .int (nI to)), (3, .int n), (4, .int (nI ks)), (5, .int u)]) hx hb dX11_seats_126 hl (k := 8) rfl (nI_add i2 1) (by decide) rfl (fun ls hl => ?_)
                    refine lv_goto (tgt := 90) hx hb dX11_seats_129 (by decide) ?_
                    exact ih_7 (i2 + 1) (u2 ||| (1 <<< ((nI i2) &&& 31))) (w2 + 1) f_19 _ _ _ (by omega) ((paF_y ⟨by rw [hpa]; show w2 < ks; omega, (sr_iff (by omega)).mp c_111⟩).trans (by rw [hpa]; rfl)) (by omega) (by omega) (hmo) (hss_) (hju_) (hdr_) (hdn_) (hsl_) (hax_) (fun j hj => (o_19 j (by omega))) hP hS (lv_sub hl [3, 4, 5, 6, 7, 8, 1, 2, 0] rfl)
          exact key7 (30 + 1) 0 0 w f_1 _ _ _ (Nat.zero_le _) (rfl) (by omega) (by omega) (hmo) (hss_) (hju_) (hdr_) (hdn_) (hsl_) (hax_) (fun j _ => rfl) hP hS (lv_sub hl [2, 3, 4, 5, 6, 7, 8, 1, 0] rfl)
        · have k_32 : ¬ ks ≤ w := fun z9 => c_32 ((nI_leI (a := ks) (b := w) (by omega) (by omega)).mpr z9)
          refine lv_aload_n hx hb dX11_seats_35 rfl (lv_at hl 0 rfl) ?_
          refine va_get (D := G.1) (ci := 10) (v := .ref (g 325)) (C := RX11) (T := TX11) (N := 25) hx hb hts inlX11 hown hG.1 hP 315 (wl_at (by decide) hmo) rfl 17 (by decide) (hts (.fieldLink RX11 39 "SwornListsModel" "drew" "[I") w_121) (fun _ h9 => h9) rfl dX11_seats_36 ?_
          refine lv_bipush (v := 24) hx hb dX11_seats_39 (by decide) ?_
          refine lv_iload_n hx hb dX11_seats_41 rfl (lv_at hl 2 rfl) ?_
          refine lv_imul hx hb dX11_seats_42 ?_
          refine my_bei (v := nI (24 * to)) (pk_mul 24 to) ?_
          refine lv_iload hx hb dX11_seats_43 (lv_at hl 7 rfl) ?_
          refine lv_iadd hx hb dX11_seats_45 ?_
          refine my_bei (v := nI (i + 24 * to)) ((nI_add (24 * to) i).trans (congrArg nI (show (24 * to) + i = i + 24 * to by omega))) ?_
          obtain ⟨t1, et1⟩ : ∃ z, opn i = z := ⟨_, rfl⟩
          have ht1 : t1 < 30 := by rw [← et1]; exact (hdr i (by omega)).2
          have hod : seF opn lf ks (i + 1) = if (seF opn lf ks i).2 < ks ∧ bt lf t1 = true then ((seF opn lf ks i).1 ||| b1 t1, (seF opn lf ks i).2 + 1) else seF opn lf ks i := by rw [← et1]; rfl
          refine va_iald hx hb hG.1 hP 325 0 (wl_at (by decide) hdr_) rfl (vp_in_nI (by omega) (by decide)) dX11_seats_46 ?_
          refine my_bei (v := dr (i + 24 * to)) (congrArg dr (nI_clamp (n := i + 24 * to) (by omega))) ?_
          refine my_bei (v := nI t1) (by rw [← et1]; exact (hdr i (by omega)).1) ?_
          refine lv_istore (lv' := [(8, .int (nI t1)), (0, .ref (g 315)), (1, .int (nI t)), (2, .int (nI to)), (3, .int n), (4, .int (nI ks)), (5, .int u), (6, .int (nI w)), (7, .int (nI i))]) hx hb dX11_seats_47 hl (by decide) rfl (fun ls hl => ?_)
          refine lv_aload_n hx hb dX11_seats_49 rfl (lv_at hl 1 rfl) ?_
          refine va_get (D := G.1) (ci := 10) (v := .ref (g 327)) (C := RX11) (T := TX11) (N := 25) hx hb hts inlX11 hown hG.1 hP 315 (wl_at (by decide) hmo) rfl 19 (by decide) (hts (.fieldLink RX11 45 "SwornListsModel" "slips" "[I") w_123) (fun _ h9 => h9) rfl dX11_seats_50 ?_
          refine lv_bipush (v := 30) hx hb dX11_seats_53 (by decide) ?_
          refine lv_iload_n hx hb dX11_seats_55 rfl (lv_at hl 3 rfl) ?_
          refine lv_imul hx hb dX11_seats_56 ?_
          refine my_bei (v := nI (30 * to)) (pk_mul 30 to) ?_
          refine lv_iload hx hb dX11_seats_57 (lv_at hl 0 rfl) ?_
          refine lv_iadd hx hb dX11_seats_59 ?_
          refine my_bei (v := nI (t1 + 30 * to)) ((nI_add (30 * to) t1).trans (congrArg nI (show (30 * to) + t1 = t1 + 30 * to by omega))) ?_
          refine va_iald hx hb hG.1 hP 327 0 (wl_at (by decide) hsl_) rfl (vp_in_nI (by omega) (by decide)) dX11_seats_60 ?_
          refine my_bei (v := sl (t1 + 30 * to)) (congrArg sl (nI_clamp (n := t1 + 30 * to) (by omega))) ?_
          refine lv_bipush (v := 6) hx hb dX11_seats_61 (by decide) ?_
          refine lv_icmp_ne (tgt := 78) hx hb dX11_seats_63 (by decide) (fun c_63 => ?_) (fun c_63 => ?_)
          · refine lv_iinc (v := nI (i + 1)) (lv' := [(7, .int (nI (i + 1))), (8, .int (nI t1)), (0, .ref (g 315)), (1, .int (nI t)), (2, .int (nI to)), (3, .int n), (4, .int (nI ks)), (5, .int u), (6, .int (nI w))]) hx hb dX11_seats_78 hl (k := 8) rfl (nI_add i 1) (by decide) rfl (fun ls hl => ?_)
            refine lv_goto (tgt := 17) hx hb dX11_seats_81 (by decide) ?_
            exact ih_1 (i + 1) u w f_1 _ _ _ (by omega) (hod.trans ((if_neg (fun z => c_63 ((hsl t1 ht1).mpr z.2))).trans hse)) (by omega) (by omega) (hmo) (hss_) (hju_) (hdr_) (hdn_) (hsl_) (hax_) (fun j hj => (o_1 j (by omega))) hP hS (lv_sub hl [2, 3, 4, 5, 6, 7, 8, 0] rfl)
          · refine lv_iload hx hb dX11_seats_66 (lv_at hl 6 rfl) ?_
            refine lv_iconst (v := 1) hx hb dX11_seats_68 (by decide) ?_
            refine lv_iload hx hb dX11_seats_69 (lv_at hl 0 rfl) ?_
            refine lv_ishl hx hb dX11_seats_71 ?_
            refine lv_ior hx hb dX11_seats_72 ?_
            refine lv_istore (lv' := [(5, .int (u ||| (1 <<< ((nI t1) &&& 31)))), (8, .int (nI t1)), (0, .ref (g 315)), (1, .int (nI t)), (2, .int (nI to)), (3, .int n), (4, .int (nI ks)), (6, .int (nI w)), (7, .int (nI i))]) hx hb dX11_seats_73 hl (by decide) rfl (fun ls hl => ?_)
            refine lv_iinc (v := nI (w + 1)) (lv' := [(6, .int (nI (w + 1))), (5, .int (u ||| (1 <<< ((nI t1) &&& 31)))), (8, .int (nI t1)), (0, .ref (g 315)), (1, .int (nI t)), (2, .int (nI to)), (3, .int n), (4, .int (nI ks)), (7, .int (nI i))]) hx hb dX11_seats_75 hl (k := 7) rfl (nI_add w 1) (by decide) rfl (fun ls hl => ?_)
            refine lv_iinc (v := nI (i + 1)) (lv' := [(7, .int (nI (i + 1))), (6, .int (nI (w + 1))), (5, .int (u ||| (1 <<< ((nI t1) &&& 31)))), (8, .int (nI t1)), (0, .ref (g 315)), (1, .int (nI t)), (2, .int (nI to)), (3, .int n), (4, .int (nI ks))]) hx hb dX11_seats_78 hl (k := 8) rfl (nI_add i 1) (by decide) rfl (fun ls hl => ?_)
            refine lv_goto (tgt := 17) hx hb dX11_seats_81 (by decide) ?_
            exact ih_1 (i + 1) (u ||| (1 <<< ((nI t1) &&& 31))) (w + 1) f_1 _ _ _ (by omega) (hod.trans ((if_pos ⟨by rw [hse]; show w < ks; omega, (hsl t1 ht1).mp c_63⟩).trans (by rw [hse]; rfl))) (by omega) (by omega) (hmo) (hss_) (hju_) (hdr_) (hdn_) (hsl_) (hax_) (fun j hj => (o_1 j (by omega))) hP hS (lv_sub hl [4, 5, 6, 7, 8, 2, 1, 0] rfl)
  exact key1 (d + 1) 0 0 0 f _ _ _ (Nat.zero_le _) (rfl) (Nat.zero_le _) (by omega) (hmo) (hss_) (hju_) (hdr_) (hdn_) (hsl_) (hax_) (fun j _ => rfl) hP hS (lv_sub hl [4, 5, 6, 7, 3, 2, 1, 0] rfl)

