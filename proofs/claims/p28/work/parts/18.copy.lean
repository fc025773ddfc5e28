/-- a text at place k, told whole -/
def isT (G : gW) (g : Nat → Nat) (f : Nat → va_E) (k ln sc : Nat) (sg sp : Nat → Int32) : Prop := f k = eO 7 [.ref (g (k + 1)), .ref (g (k + 2)), .int (nI ln), .int (nI sc)] ∧ f (k + 1) = eI G 50 sg ∧ f (k + 2) = eI G 50 sp ∧ ln ≤ 50 ∧ sc ≤ 50
theorem isT_fr {G : gW} {g : Nat → Nat} {f f' : Nat → va_E} {k ln sc : Nat} {sg sp : Nat → Int32} (h : isT G g f k ln sc sg sp) (e1 : f' k = f k) (e2 : f' (k + 1) = f (k + 1)) (e3 : f' (k + 2) = f (k + 2)) : isT G g f' k ln sc sg sp :=
  ⟨e1.trans h.1, e2.trans h.2.1, e3.trans h.2.2.1, h.2.2.2.1, h.2.2.2.2⟩
theorem isT.ok {G : gW} {g : Nat → Nat} {f : Nat → va_E} {k ln sc : Nat} {sg sp : Nat → Int32} (h : isT G g f k ln sc sg sp) : okT G g f k := ⟨ln, sc, sg, sp, h⟩
def upN {α : Type} (f : Nat → α) (i : Nat) (a : α) : Nat → α := fun z => if z = i then a else f z
theorem upN_s {α : Type} {f : Nat → α} {i : Nat} {a : α} : upN f i a i = a := if_pos rfl
theorem upN_o {α : Type} {f : Nat → α} {i z : Nat} {a : α} (h : z ≠ i) : upN f i a z = f z := if_neg h
theorem isT_step {G : gW} {g : Nat → Nat} {f f' : Nat → va_E} {k i : Nat} {ln sc : Nat → Nat} {s1 p1 : Nat → Nat → Int32} {sa pa : Nat → Int32}
    (h : ∀ z, z < i → isT G g f (3 * z + k + 5) (ln z) (sc z) (s1 z) (p1 z)) (hn : isT G g f' (3 * i + k + 5) (ln i) (sc i) sa pa) (o : ∀ j, j < 3 * i + k + 5 → f' j = f j) :
    ∀ z, z < i + 1 → isT G g f' (3 * z + k + 5) (ln z) (sc z) (upN s1 i sa z) (upN p1 i pa z) := by
  intro z hz
  by_cases e : z = i
  · subst e; rw [upN_s, upN_s]; exact hn
  · rw [upN_o e, upN_o e]
    exact isT_fr (h z (by omega)) (o _ (by omega)) (o _ (by omega)) (o _ (by omega))
theorem eq_step {i : Nat} {sg sp s1 p1 : Nat → Nat → Int32} {sa pa : Nat → Int32} (h : ∀ z, z < i → ∀ q, q < 50 → s1 z q = sg z q ∧ p1 z q = sp z q) (hn : ∀ q, q < 50 → sa q = sg i q ∧ pa q = sp i q) :
    ∀ z, z < i + 1 → ∀ q, q < 50 → upN s1 i sa z q = sg z q ∧ upN p1 i pa z q = sp z q := by
  intro z hz
  by_cases e : z = i
  · subst e; rw [upN_s, upN_s]; exact hn
  · rw [upN_o e, upN_o e]; exact h z (by omega)
theorem ok_X0_copy : okV yX0_copy cX0_copy 2 none 1 := ⟨⟨w_897, w_34, ⟨by decide +kernel, by decide +kernel, by decide +kernel⟩⟩, trivial, w_895, w_896⟩
set_option maxHeartbeats 4000000 in
set_option maxRecDepth 100000 in
theorem w_copy (l : Launch) (G : gW) (g : Nat → Nat) (hg : gOK g) (f : Nat → va_E) (k : Nat) (N : Nat) (tf : Nat → Option Nat) (k2 : Nat) (tf2 : Nat → Option Nat) (ln2 : Nat → Nat) (sc2 : Nat → Nat) (sg2 : Nat → Nat → Int32) (sp2 : Nat → Nat → Int32) (hs1 : f k = eO 6 [.ref (g (k + 1)), .ref (g (k + 2))]) (ha1 : f (k + 1) = eA G 5 N tf) (hs2 : f k2 = eO 6 [.ref (g (k2 + 1)), .ref (g (k2 + 2))]) (ha2 : f (k2 + 1) = eA G 5 N tf2) (hN : N ≤ 20) (hk3 : 3 * N + k + 5 < 334) (hk23 : 3 * N + k2 + 5 < 334) (hne : 3 * N + k + 5 ≤ k2 ∨ 3 * N + k2 + 5 ≤ k) (htf : ∀ z, z < N → tf z = some (g (k + 3 * z + 5))) (htf2 : ∀ z, z < N → tf2 z = some (g (k2 + 3 * z + 5))) (hK : ∀ z, z < N → okT G g f (3 * z + k + 5)) (hK2 : ∀ z, z < N → isT G g f (3 * z + k2 + 5) (ln2 z) (sc2 z) (sg2 z) (sp2 z)) : Met l yX6_copy (wsT yX6_copy cX6_copy 3 none) ({ frames := 2, cells := 0, slots := 0, locals := 39 }) (bP G g f [.ref (g k), .ref (g k2)]) (bQv G g (fun (f' : Nat → va_E) => ∃ s9 : Nat → Nat → Int32, ∃ p9 : Nat → Nat → Int32, (∀ z, z < N → isT G g f' (3 * z + k + 5) (ln2 z) (sc2 z) (s9 z) (p9 z)) ∧ (∀ z, z < N → ∀ q, q < 50 → s9 z q = sg2 z q ∧ p9 z q = sp2 z q) ∧ ∀ j, (j < k + 5 ∨ 3 * N + k + 5 ≤ j) → f' j = f j)) 0 0 (gA g) := by
  refine Met.ofW (cc := cX6_copy) (maxL := 3) (ret := none) (by decide) rfl ?_
  intro p e s m args below meth c s₁ B hml hv
  obtain ⟨rfl, hP, hG⟩ := hv
  have hx := B.exec
  have hb := B.bytes
  have hr := B.returns
  have hts := my_hts (atoms_spec (ws := wsT yX6_copy cX6_copy 3 none) B.pre)
  have hown : s.vm.findClass RX6 = some m.cls := findClass_of_methodNamed B.named
  have hlocks := B.notSynchronized
  have hS : va_S (gA g) s.heap s.heap [] := va_S.rf
  have hl := lv_entry ([.ref (g k), .ref (g k2)]) (n := 3) (Nat.le_of_ble_eq_true rfl)
  rw [lg_entry_eq]
  generalize (lg_sl ([.ref (g k), .ref (g k2)]) ++ List.replicate (3 - (lg_sl ([.ref (g k), .ref (g k2)])).length) Slot.unset).toArray = ls at hl ⊢
  have hl : lv_has ls 3 [(0, .ref (g k)), (1, .ref (g k2))] := hl
  refine lv_iconst (v := 0) hx hb dX6_copy_0 (by decide) ?_
  refine lv_istore_n (lv' := [(2, .int 0), (0, .ref (g k)), (1, .ref (g k2))]) hx hb dX6_copy_1 rfl hl (by decide) rfl (fun ls hl => ?_)
  have key1 : ∀ (n9_1 : Nat) (i : Nat) (s1 : Nat → Nat → Int32) (p1 : Nat → Nat → Int32) (f_1 : Nat → va_E) (H : Heap) (locs : List Loc) (ls : Array Slot), (i ≤ N) → (∀ z, z < i → isT G g f_1 (3 * z + k + 5) (ln2 z) (sc2 z) (s1 z) (p1 z)) → (∀ z, z < i → ∀ q, q < 50 → s1 z q = sg2 z q ∧ p1 z q = sp2 z q) → (∀ z, z < N → okT G g f_1 (3 * z + k + 5)) → (∀ z, z < N → isT G g f_1 (3 * z + k2 + 5) (ln2 z) (sc2 z) (sg2 z) (sp2 z)) → N - i < n9_1 → f_1 k = eO 6 [.ref (g (k + 1)), .ref (g (k + 2))] → f_1 (k + 1) = eA G 5 N tf → f_1 k2 = eO 6 [.ref (g (k2 + 1)), .ref (g (k2 + 2))] → f_1 (k2 + 1) = eA G 5 N tf2 → (∀ j, (j < k + 5 ∨ 3 * N + k + 5 ≤ j) → f_1 j = f j) → va_P G.1 vwCl (wl g f_1) H → va_S (gA g) s.heap H locs → lv_has ls 3 [(0, .ref (g k)), (1, .ref (g k2)), (2, .int (nI i))] → W p l e (headSpec (wsT yX6_copy cX6_copy 3 none) ({ frames := 2, cells := 0, slots := 0, locals := 39 })).room s m ([.ref (g k), .ref (g k2)] : List Value).toArray below meth c H locs 0 0 (MQ below (bQv G g (fun (f' : Nat → va_E) => ∃ s9 : Nat → Nat → Int32, ∃ p9 : Nat → Nat → Int32, (∀ z, z < N → isT G g f' (3 * z + k + 5) (ln2 z) (sc2 z) (s9 z) (p9 z)) ∧ (∀ z, z < N → ∀ q, q < 50 → s9 z q = sg2 z q ∧ p9 z q = sp2 z q) ∧ ∀ j, (j < k + 5 ∨ 3 * N + k + 5 ≤ j) → f' j = f j)) ([.ref (g k), .ref (g k2)] : List Value).toArray s 0 0 (gA g)) (F0 m 2 ls []) := by
    intro n9_1
    induction n9_1 with
    | zero => intro i s1 p1 f_1 H locs ls hi hC hE hK hK2 hn9_1; exact absurd hn9_1 (Nat.not_lt_zero _)
    | succ n9_1 ih_1 =>
      intro i s1 p1 f_1 H locs ls hi hC hE hK hK2 hn9_1 hs1 ha1 hs2 ha2 o_1 hP hS hl
      refine lv_iload_n hx hb dX6_copy_2 rfl (lv_at hl 2 rfl) ?_
      refine lv_aload_n hx hb dX6_copy_3 rfl (lv_at hl 0 rfl) ?_
      refine va_get (D := G.1) (ci := 6) (v := .ref (g (k + 1))) (C := RX6) (T := TX6) (N := 2) hx hb hts inlX6 hown hG.1 hP k (wl_at (by omega) hs1) rfl 0 (by decide) (hts (.fieldLink RX6 16 "SwornLists$Shelf" "texts" "[LSwornLists$Text;") w_82) (fun _ h9 => h9) rfl dX6_copy_4 ?_
      refine va_alen hx hb hG.1 hP (k + 1) 5 (wl_at (by omega) ha1) rfl rfl dX6_copy_7 ?_
      refine lv_icmp_ge (tgt := 31) hx hb dX6_copy_8 (by decide) (fun c_8 => ?_) (fun c_8 => ?_)
      · have hge : N ≤ i := (nI_leI (by omega) (by omega)).mp c_8
        exact W.vret hx hb hr (fun t ht hW => ⟨⟨f_1, rfl, (⟨s1, p1, fun z hz => hC z (by omega), fun z hz => hE z (by omega), fun j hj => (o_1 j (by omega))⟩), by rw [ht]; exact hP⟩, hS.F ht⟩) hS.2.2 dX6_copy_31
      · have hi9 : i < N := Nat.not_le.mp (fun z => c_8 (nI_le z (by omega)))
        obtain ⟨lna, sca, sga, spa, hy1, hy2, hy3, hy4, hy5⟩ := hK i hi9
        obtain ⟨hz1, hz2, hz3, hz4, hz5⟩ := hK2 i hi9
        refine lv_aload_n hx hb dX6_copy_11 rfl (lv_at hl 0 rfl) ?_
        refine va_get (D := G.1) (ci := 6) (v := .ref (g (k + 1))) (C := RX6) (T := TX6) (N := 2) hx hb hts inlX6 hown hG.1 hP k (wl_at (by omega) hs1) rfl 0 (by decide) (hts (.fieldLink RX6 16 "SwornLists$Shelf" "texts" "[LSwornLists$Text;") w_82) (fun _ h9 => h9) rfl dX6_copy_12 ?_
        refine lv_iload_n hx hb dX6_copy_15 rfl (lv_at hl 2 rfl) ?_
        refine va_aldq hx hb hG.1 hP (k + 1) 5 (wl_at (by omega) ha1) rfl (vp_in_nI hi9 (by omega)) dX6_copy_16 ?_
        refine my_bea (v := .ref (g (3 * i + k + 5))) (by rw [nI_clamp (by omega), htf i hi9, show k + 3 * i + 5 = 3 * i + k + 5 by omega]; rfl) ?_
        refine lv_aload_n hx hb dX6_copy_17 rfl (lv_at hl 1 rfl) ?_
        refine lv_iload_n hx hb dX6_copy_18 rfl (lv_at hl 2 rfl) ?_
        refine rd_calla (va_runV (As := [.int (nI i)]) (rest := [.ref (g (3 * i + k + 5))]) ⟨hx, hb, hml, hown, hts⟩ (w_get l G g hg f_1 k2 N tf2 i hs2 ha2 (by first | assumption | omega | decide) (by first | assumption | omega | decide) (by first | assumption | omega | decide) (htf2)) (my_cwV hts ok_X6_get w_908 rfl rfl ⟨Nat.le_of_ble_eq_true rfl, Nat.le_of_ble_eq_true rfl⟩) ⟨bP.blind, va_recv hG.1 hP (ci := 6) (q0 := k2) rfl (wl_at (by omega) hs2), fun U hU hW => ⟨rfl, by rw [hU]; exact hP, kG.warm hW hG⟩⟩ rfl rfl hl.1 rfl (lv_room (Nat.le_of_ble_eq_true rfl)) dX6_copy_19 ⟨Nat.le_of_ble_eq_true rfl, Nat.le_of_ble_eq_true rfl⟩) (fun r hr9 => ?_)
        subst hr9
        refine my_bea (v := .ref (g (3 * i + k2 + 5))) (by rw [show k2 + 3 * i + 5 = 3 * i + k2 + 5 by omega]) ?_
        refine b_callv (va_runV (As := [.ref (g (3 * i + k2 + 5))]) (rest := []) ⟨hx, hb, hml, hown, hts⟩ (t_copy l G g hg f_1 (3 * i + k + 5) lna sca sga spa (3 * i + k2 + 5) (ln2 i) (sc2 i) (sg2 i) (sp2 i) hy1 hy2 hy3 hz1 hz2 hz3 (by first | assumption | omega | decide) (by first | assumption | omega | decide) (by first | assumption | omega | decide) (by first | assumption | omega | decide) (by first | assumption | omega | decide)) (my_cwV hts ok_X8_copy w_909 rfl rfl ⟨Nat.le_of_ble_eq_true rfl, Nat.le_of_ble_eq_true rfl⟩) ⟨bP.blind, va_recv hG.1 hP (ci := 7) (q0 := (3 * i + k + 5)) rfl (wl_at (by omega) hy1), fun U hU hW => ⟨rfl, by rw [hU]; exact hP, kG.warm hW hG⟩⟩ rfl rfl hl.1 rfl (lv_room (Nat.le_of_ble_eq_true rfl)) dX6_copy_22 ⟨Nat.le_of_ble_eq_true rfl, Nat.le_of_ble_eq_true rfl⟩) hS (fun f_2 H locs hq9 hP hS => ?_)
        obtain ⟨s92, p93, hq_2_0, hq_2_1, hq_2_2, hx_2_0, o_2⟩ := hq9
        have hy1 : f_2 (3 * i + k + 5) = eO 7 [.ref (g ((3 * i + k + 5) + 1)), .ref (g ((3 * i + k + 5) + 2)), .int (nI (ln2 i)), .int (nI (sc2 i))] := hq_2_0
        have hy2 : f_2 (3 * i + k + 6) = eI G 50 s92 := hq_2_1
        have hy3 : f_2 (3 * i + k + 7) = eI G 50 p93 := hq_2_2
        have hK : ∀ z, z < N → okT G g f_2 (3 * z + k + 5) := fun z hz => if e9 : z = i then (by rw [e9]; exact ⟨_, _, _, _, hq_2_0, hq_2_1, hq_2_2, hz4, hz5⟩) else okT_fr (hK z hz) (o_2 _ (by omega)) (o_2 _ (by omega)) (o_2 _ (by omega))
        refine lv_iinc (v := nI (i + 1)) (lv' := [(2, .int (nI (i + 1))), (0, .ref (g k)), (1, .ref (g k2))]) hx hb dX6_copy_25 hl (k := 2) rfl (nI_1 i) (by decide) rfl (fun ls hl => ?_)
        refine lv_goto (tgt := 2) hx hb dX6_copy_28 (by decide) ?_
        have hK2 : ∀ z, z < N → isT G g f_2 (3 * z + k2 + 5) (ln2 z) (sc2 z) (sg2 z) (sp2 z) := fun z hz => isT_fr (hK2 z hz) (o_2 _ (by omega)) (o_2 _ (by omega)) (o_2 _ (by omega))
        replace hs1 : f_2 k = eO 6 [.ref (g (k + 1)), .ref (g (k + 2))] := ((o_2 k (by omega))).trans hs1
        replace ha1 : f_2 (k + 1) = eA G 5 N tf := ((o_2 (k + 1) (by omega))).trans ha1
        replace hs2 : f_2 k2 = eO 6 [.ref (g (k2 + 1)), .ref (g (k2 + 2))] := ((o_2 k2 (by omega))).trans hs2
        replace ha2 : f_2 (k2 + 1) = eA G 5 N tf2 := ((o_2 (k2 + 1) (by omega))).trans ha2
        exact ih_1 (i + 1) (upN s1 i s92) (upN p1 i p93) f_2 _ _ _ (hi9) (isT_step hC ⟨hq_2_0, hq_2_1, hq_2_2, hz4, hz5⟩ (fun j hj => o_2 j (by omega))) (eq_step hE hx_2_0) (hK) (hK2) (by omega) (hs1) (ha1) (hs2) (ha2) (fun j hj => ((o_2 j (by omega))).trans (o_1 j (by omega))) hP hS (lv_sub hl [1, 2, 0] rfl)
  exact key1 (N + 1) 0 (fun _ _ => 0) (fun _ _ => 0) f _ _ _ (Nat.zero_le _) (fun z hz => absurd hz (Nat.not_lt_zero _)) (fun z hz => absurd hz (Nat.not_lt_zero _)) (hK) (hK2) (by omega) (hs1) (ha1) (hs2) (ha2) (fun j _ => rfl) hP hS (lv_sub hl [1, 2, 0] rfl)
set_option maxHeartbeats 4000000 in
set_option maxRecDepth 100000 in
theorem k_copy (l : Launch) (G : gW) (g : Nat → Nat) (hg : gOK g) (f : Nat → va_E) (b : Nat) (b2 : Nat) (pay : Int32) (fine : Int32) (np : Nat) (dp : Nat → Int32) (nf : Nat) (df : Nat → Int32) (nr : Nat) (dr : Nat → Int32) (na : Nat) (da : Nat → Int32) (nt : Nat) (dt : Nat → Int32) (lf : Nat → Option Nat) (tf : Nat → Option Nat) (pay2 : Int32) (fine2 : Int32) (np2 : Nat) (dp2 : Nat → Int32) (nf2 : Nat) (df2 : Nat → Int32) (nr2 : Nat) (dr2 : Nat → Int32) (na2 : Nat) (da2 : Nat → Int32) (nt2 : Nat) (dt2 : Nat → Int32) (lf2 : Nat → Option Nat) (tf2 : Nat → Option Nat) (ll : Nat → Nat) (cl : Nat → Nat) (gl : Nat → Nat → Int32) (sl : Nat → Nat → Int32) (lw : Nat → Nat) (cw : Nat → Nat) (gw : Nat → Nat → Int32) (sw : Nat → Nat → Int32) (hbk : f b = eO 0 [.ref (g (b + 1)), .ref (g (b + 3)), .ref (g (b + 5)), .ref (g (b + 7)), .ref (g (b + 9)), .ref (g (b + 11)), .ref (g (b + 76)), .int pay, .int fine]) (hpr : f (b + 1) = eO 5 [.int (nI 30), .int (nI 4), .ref (g (b + 2)), .int (nI np)]) (hpd : f (b + 2) = eI G (30 * 4) dp) (hfr : f (b + 3) = eO 5 [.int (nI 40), .int (nI 3), .ref (g (b + 4)), .int (nI nf)]) (hfd : f (b + 4) = eI G (40 * 3) df) (hrr : f (b + 5) = eO 5 [.int (nI 4), .int (nI 3), .ref (g (b + 6)), .int (nI nr)]) (hrd : f (b + 6) = eI G (4 * 3) dr) (har : f (b + 7) = eO 5 [.int (nI 20), .int (nI 3), .ref (g (b + 8)), .int (nI na)]) (had : f (b + 8) = eI G (20 * 3) da) (htr : f (b + 9) = eO 5 [.int (nI 10), .int (nI 70), .ref (g (b + 10)), .int (nI nt)]) (htd : f (b + 10) = eI G (10 * 70) dt) (hsl : f (b + 11) = eO 6 [.ref (g (b + 12)), .ref (g (b + 13))]) (hal : f (b + 12) = eA G 5 20 lf) (hsw : f (b + 76) = eO 6 [.ref (g (b + 77)), .ref (g (b + 78))]) (haw : f (b + 77) = eA G 5 4 tf) (hbk2 : f b2 = eO 0 [.ref (g (b2 + 1)), .ref (g (b2 + 3)), .ref (g (b2 + 5)), .ref (g (b2 + 7)), .ref (g (b2 + 9)), .ref (g (b2 + 11)), .ref (g (b2 + 76)), .int pay2, .int fine2]) (hp2r : f (b2 + 1) = eO 5 [.int (nI 30), .int (nI 4), .ref (g (b2 + 2)), .int (nI np2)]) (hp2d : f (b2 + 2) = eI G (30 * 4) dp2) (hf2r : f (b2 + 3) = eO 5 [.int (nI 40), .int (nI 3), .ref (g (b2 + 4)), .int (nI nf2)]) (hf2d : f (b2 + 4) = eI G (40 * 3) df2) (hr2r : f (b2 + 5) = eO 5 [.int (nI 4), .int (nI 3), .ref (g (b2 + 6)), .int (nI nr2)]) (hr2d : f (b2 + 6) = eI G (4 * 3) dr2) (ha2r : f (b2 + 7) = eO 5 [.int (nI 20), .int (nI 3), .ref (g (b2 + 8)), .int (nI na2)]) (ha2d : f (b2 + 8) = eI G (20 * 3) da2) (ht2r : f (b2 + 9) = eO 5 [.int (nI 10), .int (nI 70), .ref (g (b2 + 10)), .int (nI nt2)]) (ht2d : f (b2 + 10) = eI G (10 * 70) dt2) (hsl2 : f (b2 + 11) = eO 6 [.ref (g (b2 + 12)), .ref (g (b2 + 13))]) (hal2 : f (b2 + 12) = eA G 5 20 lf2) (hsw2 : f (b2 + 76) = eO 6 [.ref (g (b2 + 77)), .ref (g (b2 + 78))]) (haw2 : f (b2 + 77) = eA G 5 4 tf2) (hnp : np ≤ 30) (hnf : nf ≤ 40) (hnr : nr ≤ 4) (hna : na ≤ 20) (hnt : nt ≤ 10) (hlf : ∀ z, z < 20 → lf z = some (g (b + 11 + 3 * z + 5))) (htf : ∀ z, z < 4 → tf z = some (g (b + 76 + 3 * z + 5))) (hnp2 : np2 ≤ 30) (hnf2 : nf2 ≤ 40) (hnr2 : nr2 ≤ 4) (hna2 : na2 ≤ 20) (hnt2 : nt2 ≤ 10) (hlf2 : ∀ z, z < 20 → lf2 z = some (g (b2 + 11 + 3 * z + 5))) (htf2 : ∀ z, z < 4 → tf2 z = some (g (b2 + 76 + 3 * z + 5))) (hbb : b + 93 < 334) (hb22 : b2 + 93 < 334) (hne : b + 93 ≤ b2 ∨ b2 + 93 ≤ b) (hKl : ∀ z, z < 20 → okT G g f (3 * z + (b + 11) + 5)) (hKw : ∀ z, z < 4 → okT G g f (3 * z + (b + 76) + 5)) (hKl2 : ∀ z, z < 20 → isT G g f (3 * z + (b2 + 11) + 5) (ll z) (cl z) (gl z) (sl z)) (hKw2 : ∀ z, z < 4 → isT G g f (3 * z + (b2 + 76) + 5) (lw z) (cw z) (gw z) (sw z)) : Met l yX0_copy (wsT yX0_copy cX0_copy 2 none) ({ frames := 3, cells := 0, slots := 0, locals := 61 }) (bP G g f [.ref (g b), .ref (g b2)]) (bQv G g (fun (f' : Nat → va_E) => ∃ dp9 : Nat → Int32, ∃ df9 : Nat → Int32, ∃ dr9 : Nat → Int32, ∃ da9 : Nat → Int32, ∃ dt9 : Nat → Int32, ∃ gl9 : Nat → Nat → Int32, ∃ sl9 : Nat → Nat → Int32, ∃ gw9 : Nat → Nat → Int32, ∃ sw9 : Nat → Nat → Int32, f' b = eO 0 [.ref (g (b + 1)), .ref (g (b + 3)), .ref (g (b + 5)), .ref (g (b + 7)), .ref (g (b + 9)), .ref (g (b + 11)), .ref (g (b + 76)), .int pay2, .int fine2] ∧ f' (b + 1) = eO 5 [.int (nI 30), .int (nI 4), .ref (g (b + 2)), .int (nI np2)] ∧ f' (b + 2) = eI G (30 * 4) dp9 ∧ f' (b + 3) = eO 5 [.int (nI 40), .int (nI 3), .ref (g (b + 4)), .int (nI nf2)] ∧ f' (b + 4) = eI G (40 * 3) df9 ∧ f' (b + 5) = eO 5 [.int (nI 4), .int (nI 3), .ref (g (b + 6)), .int (nI nr2)] ∧ f' (b + 6) = eI G (4 * 3) dr9 ∧ f' (b + 7) = eO 5 [.int (nI 20), .int (nI 3), .ref (g (b + 8)), .int (nI na2)] ∧ f' (b + 8) = eI G (20 * 3) da9 ∧ f' (b + 9) = eO 5 [.int (nI 10), .int (nI 70), .ref (g (b + 10)), .int (nI nt2)] ∧ f' (b + 10) = eI G (10 * 70) dt9 ∧ f' (b + 11) = eO 6 [.ref (g (b + 12)), .ref (g (b + 13))] ∧ f' (b + 12) = eA G 5 20 lf ∧ f' (b + 76) = eO 6 [.ref (g (b + 77)), .ref (g (b + 78))] ∧ f' (b + 77) = eA G 5 4 tf ∧ (∀ i, i < 30 * 4 → dp9 i = dp2 i) ∧ (∀ i, i < 40 * 3 → df9 i = df2 i) ∧ (∀ i, i < 4 * 3 → dr9 i = dr2 i) ∧ (∀ i, i < 20 * 3 → da9 i = da2 i) ∧ (∀ i, i < 10 * 70 → dt9 i = dt2 i) ∧ (∀ z, z < 20 → isT G g f' (3 * z + (b + 11) + 5) (ll z) (cl z) (gl9 z) (sl9 z)) ∧ (∀ z, z < 20 → ∀ q, q < 50 → gl9 z q = gl z q ∧ sl9 z q = sl z q) ∧ (∀ z, z < 4 → isT G g f' (3 * z + (b + 76) + 5) (lw z) (cw z) (gw9 z) (sw9 z)) ∧ (∀ z, z < 4 → ∀ q, q < 50 → gw9 z q = gw z q ∧ sw9 z q = sw z q) ∧ ∀ j, (j < b ∨ b + 93 ≤ j) → f' j = f j)) 0 0 (gA g) := by
  refine Met.ofW (cc := cX0_copy) (maxL := 2) (ret := none) (by decide) rfl ?_
  intro p e s m args below meth c s₁ B hml hv
  obtain ⟨rfl, hP, hG⟩ := hv
  have hx := B.exec
  have hb := B.bytes
  have hr := B.returns
  have hts := my_hts (atoms_spec (ws := wsT yX0_copy cX0_copy 2 none) B.pre)
  have hown : s.vm.findClass RX0 = some m.cls := findClass_of_methodNamed B.named
  have hlocks := B.notSynchronized
  have hS : va_S (gA g) s.heap s.heap [] := va_S.rf
  have hl := lv_entry ([.ref (g b), .ref (g b2)]) (n := 2) (Nat.le_of_ble_eq_true rfl)
  rw [lg_entry_eq]
  generalize (lg_sl ([.ref (g b), .ref (g b2)]) ++ List.replicate (2 - (lg_sl ([.ref (g b), .ref (g b2)])).length) Slot.unset).toArray = ls at hl ⊢
  have hl : lv_has ls 2 [(0, .ref (g b)), (1, .ref (g b2))] := hl
  refine lv_aload_n hx hb dX0_copy_0 rfl (lv_at hl 0 rfl) ?_
  refine va_get (D := G.1) (ci := 0) (v := .ref (g (b + 1))) (C := RX0) (T := TX0) (N := 9) hx hb hts inlX0 hown hG.1 hP b (wl_at (by omega) hbk) rfl 0 (by decide) (hts (.fieldLink RX0 14 "SwornLists$Book" "people" "LSwornLists$Rows;") w_54) (fun _ h9 => h9) rfl dX0_copy_1 ?_
  refine lv_aload_n hx hb dX0_copy_4 rfl (lv_at hl 1 rfl) ?_
  refine va_get (D := G.1) (ci := 0) (v := .ref (g (b2 + 1))) (C := RX0) (T := TX0) (N := 9) hx hb hts inlX0 hown hG.1 hP b2 (wl_at (by omega) hbk2) rfl 0 (by decide) (hts (.fieldLink RX0 14 "SwornLists$Book" "people" "LSwornLists$Rows;") w_54) (fun _ h9 => h9) rfl dX0_copy_5 ?_
  refine b_callv (va_runV (As := [.ref (g (b2 + 1))]) (rest := []) ⟨hx, hb, hml, hown, hts⟩ (r_copy l G g hg f (b + 1) 30 4 np dp (b2 + 1) np2 dp2 hpr hpd hp2r hp2d (by first | assumption | omega | decide) (by first | assumption | omega | decide) (by first | assumption | omega | decide) (by first | assumption | omega | decide) (by first | assumption | omega | decide) (by first | assumption | omega | decide) (by first | assumption | omega | decide)) (my_cwV hts ok_X5_copy w_898 rfl rfl ⟨Nat.le_of_ble_eq_true rfl, Nat.le_of_ble_eq_true rfl⟩) ⟨bP.blind, va_recv hG.1 hP (ci := 5) (q0 := (b + 1)) rfl (wl_at (by omega) hpr), fun U hU hW => ⟨rfl, by rw [hU]; exact hP, kG.warm hW hG⟩⟩ rfl rfl hl.1 rfl (lv_room (Nat.le_of_ble_eq_true rfl)) dX0_copy_8 ⟨Nat.le_of_ble_eq_true rfl, Nat.le_of_ble_eq_true rfl⟩) hS (fun f_1 H locs hq9 hP hS => ?_)
  obtain ⟨dd1, hq_1_0, hq_1_1, hx_1_0, o_1⟩ := hq9
  have hpr : f_1 (b + 1) = eO 5 [.int (nI 30), .int (nI 4), .ref (g ((b + 1) + 1)), .int (nI np2)] := hq_1_0
  have hpd : f_1 (b + 2) = eI G (30 * 4) dd1 := hq_1_1
  refine lv_aload_n hx hb dX0_copy_11 rfl (lv_at hl 0 rfl) ?_
  replace hbk : f_1 b = eO 0 [.ref (g (b + 1)), .ref (g (b + 3)), .ref (g (b + 5)), .ref (g (b + 7)), .ref (g (b + 9)), .ref (g (b + 11)), .ref (g (b + 76)), .int pay, .int fine] := ((o_1 b (by omega))).trans hbk
  refine va_get (D := G.1) (ci := 0) (v := .ref (g (b + 3))) (C := RX0) (T := TX0) (N := 9) hx hb hts inlX0 hown hG.1 hP b (wl_at (by omega) hbk) rfl 1 (by decide) (hts (.fieldLink RX0 20 "SwornLists$Book" "facts" "LSwornLists$Rows;") w_55) (fun _ h9 => h9) rfl dX0_copy_12 ?_
  refine lv_aload_n hx hb dX0_copy_15 rfl (lv_at hl 1 rfl) ?_
  replace hbk2 : f_1 b2 = eO 0 [.ref (g (b2 + 1)), .ref (g (b2 + 3)), .ref (g (b2 + 5)), .ref (g (b2 + 7)), .ref (g (b2 + 9)), .ref (g (b2 + 11)), .ref (g (b2 + 76)), .int pay2, .int fine2] := ((o_1 b2 (by omega))).trans hbk2
  refine va_get (D := G.1) (ci := 0) (v := .ref (g (b2 + 3))) (C := RX0) (T := TX0) (N := 9) hx hb hts inlX0 hown hG.1 hP b2 (wl_at (by omega) hbk2) rfl 1 (by decide) (hts (.fieldLink RX0 20 "SwornLists$Book" "facts" "LSwornLists$Rows;") w_55) (fun _ h9 => h9) rfl dX0_copy_16 ?_
  replace hfr : f_1 (b + 3) = eO 5 [.int (nI 40), .int (nI 3), .ref (g (b + 4)), .int (nI nf)] := ((o_1 (b + 3) (by omega))).trans hfr
  replace hfd : f_1 (b + 4) = eI G (40 * 3) df := ((o_1 (b + 4) (by omega))).trans hfd
  replace hf2r : f_1 (b2 + 3) = eO 5 [.int (nI 40), .int (nI 3), .ref (g (b2 + 4)), .int (nI nf2)] := ((o_1 (b2 + 3) (by omega))).trans hf2r
  replace hf2d : f_1 (b2 + 4) = eI G (40 * 3) df2 := ((o_1 (b2 + 4) (by omega))).trans hf2d
  refine b_callv (va_runV (As := [.ref (g (b2 + 3))]) (rest := []) ⟨hx, hb, hml, hown, hts⟩ (r_copy l G g hg f_1 (b + 3) 40 3 nf df (b2 + 3) nf2 df2 hfr hfd hf2r hf2d (by first | assumption | omega | decide) (by first | assumption | omega | decide) (by first | assumption | omega | decide) (by first | assumption | omega | decide) (by first | assumption | omega | decide) (by first | assumption | omega | decide) (by first | assumption | omega | decide)) (my_cwV hts ok_X5_copy w_898 rfl rfl ⟨Nat.le_of_ble_eq_true rfl, Nat.le_of_ble_eq_true rfl⟩) ⟨bP.blind, va_recv hG.1 hP (ci := 5) (q0 := (b + 3)) rfl (wl_at (by omega) hfr), fun U hU hW => ⟨rfl, by rw [hU]; exact hP, kG.warm hW hG⟩⟩ rfl rfl hl.1 rfl (lv_room (Nat.le_of_ble_eq_true rfl)) dX0_copy_19 ⟨Nat.le_of_ble_eq_true rfl, Nat.le_of_ble_eq_true rfl⟩) hS (fun f_2 H locs hq9 hP hS => ?_)
  obtain ⟨dd2, hq_2_0, hq_2_1, hx_2_0, o_2⟩ := hq9
  have hfr : f_2 (b + 3) = eO 5 [.int (nI 40), .int (nI 3), .ref (g ((b + 3) + 1)), .int (nI nf2)] := hq_2_0
  have hfd : f_2 (b + 4) = eI G (40 * 3) dd2 := hq_2_1
  refine lv_aload_n hx hb dX0_copy_22 rfl (lv_at hl 0 rfl) ?_
  replace hbk : f_2 b = eO 0 [.ref (g (b + 1)), .ref (g (b + 3)), .ref (g (b + 5)), .ref (g (b + 7)), .ref (g (b + 9)), .ref (g (b + 11)), .ref (g (b + 76)), .int pay, .int fine] := ((o_2 b (by omega))).trans hbk
  refine va_get (D := G.1) (ci := 0) (v := .ref (g (b + 5))) (C := RX0) (T := TX0) (N := 9) hx hb hts inlX0 hown hG.1 hP b (wl_at (by omega) hbk) rfl 2 (by decide) (hts (.fieldLink RX0 23 "SwornLists$Book" "rolls" "LSwornLists$Rows;") w_56) (fun _ h9 => h9) rfl dX0_copy_23 ?_
  refine lv_aload_n hx hb dX0_copy_26 rfl (lv_at hl 1 rfl) ?_
  replace hbk2 : f_2 b2 = eO 0 [.ref (g (b2 + 1)), .ref (g (b2 + 3)), .ref (g (b2 + 5)), .ref (g (b2 + 7)), .ref (g (b2 + 9)), .ref (g (b2 + 11)), .ref (g (b2 + 76)), .int pay2, .int fine2] := ((o_2 b2 (by omega))).trans hbk2
  refine va_get (D := G.1) (ci := 0) (v := .ref (g (b2 + 5))) (C := RX0) (T := TX0) (N := 9) hx hb hts inlX0 hown hG.1 hP b2 (wl_at (by omega) hbk2) rfl 2 (by decide) (hts (.fieldLink RX0 23 "SwornLists$Book" "rolls" "LSwornLists$Rows;") w_56) (fun _ h9 => h9) rfl dX0_copy_27 ?_
  replace hrr : f_2 (b + 5) = eO 5 [.int (nI 4), .int (nI 3), .ref (g (b + 6)), .int (nI nr)] := ((o_2 (b + 5) (by omega)).trans ((o_1 (b + 5) (by omega)))).trans hrr
  replace hrd : f_2 (b + 6) = eI G (4 * 3) dr := ((o_2 (b + 6) (by omega)).trans ((o_1 (b + 6) (by omega)))).trans hrd
  replace hr2r : f_2 (b2 + 5) = eO 5 [.int (nI 4), .int (nI 3), .ref (g (b2 + 6)), .int (nI nr2)] := ((o_2 (b2 + 5) (by omega)).trans ((o_1 (b2 + 5) (by omega)))).trans hr2r
  replace hr2d : f_2 (b2 + 6) = eI G (4 * 3) dr2 := ((o_2 (b2 + 6) (by omega)).trans ((o_1 (b2 + 6) (by omega)))).trans hr2d
  refine b_callv (va_runV (As := [.ref (g (b2 + 5))]) (rest := []) ⟨hx, hb, hml, hown, hts⟩ (r_copy l G g hg f_2 (b + 5) 4 3 nr dr (b2 + 5) nr2 dr2 hrr hrd hr2r hr2d (by first | assumption | omega | decide) (by first | assumption | omega | decide) (by first | assumption | omega | decide) (by first | assumption | omega | decide) (by first | assumption | omega | decide) (by first | assumption | omega | decide) (by first | assumption | omega | decide)) (my_cwV hts ok_X5_copy w_898 rfl rfl ⟨Nat.le_of_ble_eq_true rfl, Nat.le_of_ble_eq_true rfl⟩) ⟨bP.blind, va_recv hG.1 hP (ci := 5) (q0 := (b + 5)) rfl (wl_at (by omega) hrr), fun U hU hW => ⟨rfl, by rw [hU]; exact hP, kG.warm hW hG⟩⟩ rfl rfl hl.1 rfl (lv_room (Nat.le_of_ble_eq_true rfl)) dX0_copy_30 ⟨Nat.le_of_ble_eq_true rfl, Nat.le_of_ble_eq_true rfl⟩) hS (fun f_3 H locs hq9 hP hS => ?_)
  obtain ⟨dd3, hq_3_0, hq_3_1, hx_3_0, o_3⟩ := hq9
  have hrr : f_3 (b + 5) = eO 5 [.int (nI 4), .int (nI 3), .ref (g ((b + 5) + 1)), .int (nI nr2)] := hq_3_0
  have hrd : f_3 (b + 6) = eI G (4 * 3) dd3 := hq_3_1
  refine lv_aload_n hx hb dX0_copy_33 rfl (lv_at hl 0 rfl) ?_
  replace hbk : f_3 b = eO 0 [.ref (g (b + 1)), .ref (g (b + 3)), .ref (g (b + 5)), .ref (g (b + 7)), .ref (g (b + 9)), .ref (g (b + 11)), .ref (g (b + 76)), .int pay, .int fine] := ((o_3 b (by omega))).trans hbk
  refine va_get (D := G.1) (ci := 0) (v := .ref (g (b + 7))) (C := RX0) (T := TX0) (N := 9) hx hb hts inlX0 hown hG.1 hP b (wl_at (by omega) hbk) rfl 3 (by decide) (hts (.fieldLink RX0 26 "SwornLists$Book" "acts" "LSwornLists$Rows;") w_57) (fun _ h9 => h9) rfl dX0_copy_34 ?_
  refine lv_aload_n hx hb dX0_copy_37 rfl (lv_at hl 1 rfl) ?_
  replace hbk2 : f_3 b2 = eO 0 [.ref (g (b2 + 1)), .ref (g (b2 + 3)), .ref (g (b2 + 5)), .ref (g (b2 + 7)), .ref (g (b2 + 9)), .ref (g (b2 + 11)), .ref (g (b2 + 76)), .int pay2, .int fine2] := ((o_3 b2 (by omega))).trans hbk2
  refine va_get (D := G.1) (ci := 0) (v := .ref (g (b2 + 7))) (C := RX0) (T := TX0) (N := 9) hx hb hts inlX0 hown hG.1 hP b2 (wl_at (by omega) hbk2) rfl 3 (by decide) (hts (.fieldLink RX0 26 "SwornLists$Book" "acts" "LSwornLists$Rows;") w_57) (fun _ h9 => h9) rfl dX0_copy_38 ?_
  replace har : f_3 (b + 7) = eO 5 [.int (nI 20), .int (nI 3), .ref (g (b + 8)), .int (nI na)] := ((o_3 (b + 7) (by omega)).trans ((o_2 (b + 7) (by omega)).trans ((o_1 (b + 7) (by omega))))).trans har
  replace had : f_3 (b + 8) = eI G (20 * 3) da := ((o_3 (b + 8) (by omega)).trans ((o_2 (b + 8) (by omega)).trans ((o_1 (b + 8) (by omega))))).trans had
  replace ha2r : f_3 (b2 + 7) = eO 5 [.int (nI 20), .int (nI 3), .ref (g (b2 + 8)), .int (nI na2)] := ((o_3 (b2 + 7) (by omega)).trans ((o_2 (b2 + 7) (by omega)).trans ((o_1 (b2 + 7) (by omega))))).trans ha2r
  replace ha2d : f_3 (b2 + 8) = eI G (20 * 3) da2 := ((o_3 (b2 + 8) (by omega)).trans ((o_2 (b2 + 8) (by omega)).trans ((o_1 (b2 + 8) (by omega))))).trans ha2d
  refine b_callv (va_runV (As := [.ref (g (b2 + 7))]) (rest := []) ⟨hx, hb, hml, hown, hts⟩ (r_copy l G g hg f_3 (b + 7) 20 3 na da (b2 + 7) na2 da2 har had ha2r ha2d (by first | assumption | omega | decide) (by first | assumption | omega | decide) (by first | assumption | omega | decide) (by first | assumption | omega | decide) (by first | assumption | omega | decide) (by first | assumption | omega | decide) (by first | assumption | omega | decide)) (my_cwV hts ok_X5_copy w_898 rfl rfl ⟨Nat.le_of_ble_eq_true rfl, Nat.le_of_ble_eq_true rfl⟩) ⟨bP.blind, va_recv hG.1 hP (ci := 5) (q0 := (b + 7)) rfl (wl_at (by omega) har), fun U hU hW => ⟨rfl, by rw [hU]; exact hP, kG.warm hW hG⟩⟩ rfl rfl hl.1 rfl (lv_room (Nat.le_of_ble_eq_true rfl)) dX0_copy_41 ⟨Nat.le_of_ble_eq_true rfl, Nat.le_of_ble_eq_true rfl⟩) hS (fun f_4 H locs hq9 hP hS => ?_)
  obtain ⟨dd4, hq_4_0, hq_4_1, hx_4_0, o_4⟩ := hq9
  have har : f_4 (b + 7) = eO 5 [.int (nI 20), .int (nI 3), .ref (g ((b + 7) + 1)), .int (nI na2)] := hq_4_0
  have had : f_4 (b + 8) = eI G (20 * 3) dd4 := hq_4_1
  refine lv_aload_n hx hb dX0_copy_44 rfl (lv_at hl 0 rfl) ?_
  replace hbk : f_4 b = eO 0 [.ref (g (b + 1)), .ref (g (b + 3)), .ref (g (b + 5)), .ref (g (b + 7)), .ref (g (b + 9)), .ref (g (b + 11)), .ref (g (b + 76)), .int pay, .int fine] := ((o_4 b (by omega))).trans hbk
  refine va_get (D := G.1) (ci := 0) (v := .ref (g (b + 9))) (C := RX0) (T := TX0) (N := 9) hx hb hts inlX0 hown hG.1 hP b (wl_at (by omega) hbk) rfl 4 (by decide) (hts (.fieldLink RX0 29 "SwornLists$Book" "trials" "LSwornLists$Rows;") w_58) (fun _ h9 => h9) rfl dX0_copy_45 ?_
  refine lv_aload_n hx hb dX0_copy_48 rfl (lv_at hl 1 rfl) ?_
  replace hbk2 : f_4 b2 = eO 0 [.ref (g (b2 + 1)), .ref (g (b2 + 3)), .ref (g (b2 + 5)), .ref (g (b2 + 7)), .ref (g (b2 + 9)), .ref (g (b2 + 11)), .ref (g (b2 + 76)), .int pay2, .int fine2] := ((o_4 b2 (by omega))).trans hbk2
  refine va_get (D := G.1) (ci := 0) (v := .ref (g (b2 + 9))) (C := RX0) (T := TX0) (N := 9) hx hb hts inlX0 hown hG.1 hP b2 (wl_at (by omega) hbk2) rfl 4 (by decide) (hts (.fieldLink RX0 29 "SwornLists$Book" "trials" "LSwornLists$Rows;") w_58) (fun _ h9 => h9) rfl dX0_copy_49 ?_
  replace htr : f_4 (b + 9) = eO 5 [.int (nI 10), .int (nI 70), .ref (g (b + 10)), .int (nI nt)] := ((o_4 (b + 9) (by omega)).trans ((o_3 (b + 9) (by omega)).trans ((o_2 (b + 9) (by omega)).trans ((o_1 (b + 9) (by omega)))))).trans htr
  replace htd : f_4 (b + 10) = eI G (10 * 70) dt := ((o_4 (b + 10) (by omega)).trans ((o_3 (b + 10) (by omega)).trans ((o_2 (b + 10) (by omega)).trans ((o_1 (b + 10) (by omega)))))).trans htd
  replace ht2r : f_4 (b2 + 9) = eO 5 [.int (nI 10), .int (nI 70), .ref (g (b2 + 10)), .int (nI nt2)] := ((o_4 (b2 + 9) (by omega)).trans ((o_3 (b2 + 9) (by omega)).trans ((o_2 (b2 + 9) (by omega)).trans ((o_1 (b2 + 9) (by omega)))))).trans ht2r
  replace ht2d : f_4 (b2 + 10) = eI G (10 * 70) dt2 := ((o_4 (b2 + 10) (by omega)).trans ((o_3 (b2 + 10) (by omega)).trans ((o_2 (b2 + 10) (by omega)).trans ((o_1 (b2 + 10) (by omega)))))).trans ht2d
  refine b_callv (va_runV (As := [.ref (g (b2 + 9))]) (rest := []) ⟨hx, hb, hml, hown, hts⟩ (r_copy l G g hg f_4 (b + 9) 10 70 nt dt (b2 + 9) nt2 dt2 htr htd ht2r ht2d (by first | assumption | omega | decide) (by first | assumption | omega | decide) (by first | assumption | omega | decide) (by first | assumption | omega | decide) (by first | assumption | omega | decide) (by first | assumption | omega | decide) (by first | assumption | omega | decide)) (my_cwV hts ok_X5_copy w_898 rfl rfl ⟨Nat.le_of_ble_eq_true rfl, Nat.le_of_ble_eq_true rfl⟩) ⟨bP.blind, va_recv hG.1 hP (ci := 5) (q0 := (b + 9)) rfl (wl_at (by omega) htr), fun U hU hW => ⟨rfl, by rw [hU]; exact hP, kG.warm hW hG⟩⟩ rfl rfl hl.1 rfl (lv_room (Nat.le_of_ble_eq_true rfl)) dX0_copy_52 ⟨Nat.le_of_ble_eq_true rfl, Nat.le_of_ble_eq_true rfl⟩) hS (fun f_5 H locs hq9 hP hS => ?_)
  obtain ⟨dd5, hq_5_0, hq_5_1, hx_5_0, o_5⟩ := hq9
  have htr : f_5 (b + 9) = eO 5 [.int (nI 10), .int (nI 70), .ref (g ((b + 9) + 1)), .int (nI nt2)] := hq_5_0
  have htd : f_5 (b + 10) = eI G (10 * 70) dd5 := hq_5_1
  refine lv_aload_n hx hb dX0_copy_55 rfl (lv_at hl 0 rfl) ?_
  replace hbk : f_5 b = eO 0 [.ref (g (b + 1)), .ref (g (b + 3)), .ref (g (b + 5)), .ref (g (b + 7)), .ref (g (b + 9)), .ref (g (b + 11)), .ref (g (b + 76)), .int pay, .int fine] := ((o_5 b (by omega))).trans hbk
  refine va_get (D := G.1) (ci := 0) (v := .ref (g (b + 11))) (C := RX0) (T := TX0) (N := 9) hx hb hts inlX0 hown hG.1 hP b (wl_at (by omega) hbk) rfl 5 (by decide) (hts (.fieldLink RX0 37 "SwornLists$Book" "laws" "LSwornLists$Shelf;") w_62) (fun _ h9 => h9) rfl dX0_copy_56 ?_
  refine lv_aload_n hx hb dX0_copy_59 rfl (lv_at hl 1 rfl) ?_
  replace hbk2 : f_5 b2 = eO 0 [.ref (g (b2 + 1)), .ref (g (b2 + 3)), .ref (g (b2 + 5)), .ref (g (b2 + 7)), .ref (g (b2 + 9)), .ref (g (b2 + 11)), .ref (g (b2 + 76)), .int pay2, .int fine2] := ((o_5 b2 (by omega))).trans hbk2
  refine va_get (D := G.1) (ci := 0) (v := .ref (g (b2 + 11))) (C := RX0) (T := TX0) (N := 9) hx hb hts inlX0 hown hG.1 hP b2 (wl_at (by omega) hbk2) rfl 5 (by decide) (hts (.fieldLink RX0 37 "SwornLists$Book" "laws" "LSwornLists$Shelf;") w_62) (fun _ h9 => h9) rfl dX0_copy_60 ?_
  replace hsl : f_5 (b + 11) = eO 6 [.ref (g (b + 12)), .ref (g (b + 13))] := ((o_5 (b + 11) (by omega)).trans ((o_4 (b + 11) (by omega)).trans ((o_3 (b + 11) (by omega)).trans ((o_2 (b + 11) (by omega)).trans ((o_1 (b + 11) (by omega))))))).trans hsl
  replace hal : f_5 (b + 12) = eA G 5 20 lf := ((o_5 (b + 12) (by omega)).trans ((o_4 (b + 12) (by omega)).trans ((o_3 (b + 12) (by omega)).trans ((o_2 (b + 12) (by omega)).trans ((o_1 (b + 12) (by omega))))))).trans hal
  replace hsl2 : f_5 (b2 + 11) = eO 6 [.ref (g (b2 + 12)), .ref (g (b2 + 13))] := ((o_5 (b2 + 11) (by omega)).trans ((o_4 (b2 + 11) (by omega)).trans ((o_3 (b2 + 11) (by omega)).trans ((o_2 (b2 + 11) (by omega)).trans ((o_1 (b2 + 11) (by omega))))))).trans hsl2
  replace hal2 : f_5 (b2 + 12) = eA G 5 20 lf2 := ((o_5 (b2 + 12) (by omega)).trans ((o_4 (b2 + 12) (by omega)).trans ((o_3 (b2 + 12) (by omega)).trans ((o_2 (b2 + 12) (by omega)).trans ((o_1 (b2 + 12) (by omega))))))).trans hal2
  have hKl : ∀ z, z < 20 → okT G g f_1 (3 * z + (b + 11) + 5) := fun z hz => okT_fr (hKl z hz) (o_1 _ (by omega)) (o_1 _ (by omega)) (o_1 _ (by omega))
  have hKl : ∀ z, z < 20 → okT G g f_2 (3 * z + (b + 11) + 5) := fun z hz => okT_fr (hKl z hz) (o_2 _ (by omega)) (o_2 _ (by omega)) (o_2 _ (by omega))
  have hKl : ∀ z, z < 20 → okT G g f_3 (3 * z + (b + 11) + 5) := fun z hz => okT_fr (hKl z hz) (o_3 _ (by omega)) (o_3 _ (by omega)) (o_3 _ (by omega))
  have hKl : ∀ z, z < 20 → okT G g f_4 (3 * z + (b + 11) + 5) := fun z hz => okT_fr (hKl z hz) (o_4 _ (by omega)) (o_4 _ (by omega)) (o_4 _ (by omega))
  have hKl : ∀ z, z < 20 → okT G g f_5 (3 * z + (b + 11) + 5) := fun z hz => okT_fr (hKl z hz) (o_5 _ (by omega)) (o_5 _ (by omega)) (o_5 _ (by omega))
  have hKw : ∀ z, z < 4 → okT G g f_1 (3 * z + (b + 76) + 5) := fun z hz => okT_fr (hKw z hz) (o_1 _ (by omega)) (o_1 _ (by omega)) (o_1 _ (by omega))
  have hKw : ∀ z, z < 4 → okT G g f_2 (3 * z + (b + 76) + 5) := fun z hz => okT_fr (hKw z hz) (o_2 _ (by omega)) (o_2 _ (by omega)) (o_2 _ (by omega))
  have hKw : ∀ z, z < 4 → okT G g f_3 (3 * z + (b + 76) + 5) := fun z hz => okT_fr (hKw z hz) (o_3 _ (by omega)) (o_3 _ (by omega)) (o_3 _ (by omega))
  have hKw : ∀ z, z < 4 → okT G g f_4 (3 * z + (b + 76) + 5) := fun z hz => okT_fr (hKw z hz) (o_4 _ (by omega)) (o_4 _ (by omega)) (o_4 _ (by omega))
  have hKw : ∀ z, z < 4 → okT G g f_5 (3 * z + (b + 76) + 5) := fun z hz => okT_fr (hKw z hz) (o_5 _ (by omega)) (o_5 _ (by omega)) (o_5 _ (by omega))
  have hKl2 : ∀ z, z < 20 → isT G g f_1 (3 * z + (b2 + 11) + 5) (ll z) (cl z) (gl z) (sl z) := fun z hz => isT_fr (hKl2 z hz) (o_1 _ (by omega)) (o_1 _ (by omega)) (o_1 _ (by omega))
  have hKl2 : ∀ z, z < 20 → isT G g f_2 (3 * z + (b2 + 11) + 5) (ll z) (cl z) (gl z) (sl z) := fun z hz => isT_fr (hKl2 z hz) (o_2 _ (by omega)) (o_2 _ (by omega)) (o_2 _ (by omega))
  have hKl2 : ∀ z, z < 20 → isT G g f_3 (3 * z + (b2 + 11) + 5) (ll z) (cl z) (gl z) (sl z) := fun z hz => isT_fr (hKl2 z hz) (o_3 _ (by omega)) (o_3 _ (by omega)) (o_3 _ (by omega))
  have hKl2 : ∀ z, z < 20 → isT G g f_4 (3 * z + (b2 + 11) + 5) (ll z) (cl z) (gl z) (sl z) := fun z hz => isT_fr (hKl2 z hz) (o_4 _ (by omega)) (o_4 _ (by omega)) (o_4 _ (by omega))
  have hKl2 : ∀ z, z < 20 → isT G g f_5 (3 * z + (b2 + 11) + 5) (ll z) (cl z) (gl z) (sl z) := fun z hz => isT_fr (hKl2 z hz) (o_5 _ (by omega)) (o_5 _ (by omega)) (o_5 _ (by omega))
  have hKw2 : ∀ z, z < 4 → isT G g f_1 (3 * z + (b2 + 76) + 5) (lw z) (cw z) (gw z) (sw z) := fun z hz => isT_fr (hKw2 z hz) (o_1 _ (by omega)) (o_1 _ (by omega)) (o_1 _ (by omega))
  have hKw2 : ∀ z, z < 4 → isT G g f_2 (3 * z + (b2 + 76) + 5) (lw z) (cw z) (gw z) (sw z) := fun z hz => isT_fr (hKw2 z hz) (o_2 _ (by omega)) (o_2 _ (by omega)) (o_2 _ (by omega))
  have hKw2 : ∀ z, z < 4 → isT G g f_3 (3 * z + (b2 + 76) + 5) (lw z) (cw z) (gw z) (sw z) := fun z hz => isT_fr (hKw2 z hz) (o_3 _ (by omega)) (o_3 _ (by omega)) (o_3 _ (by omega))
  have hKw2 : ∀ z, z < 4 → isT G g f_4 (3 * z + (b2 + 76) + 5) (lw z) (cw z) (gw z) (sw z) := fun z hz => isT_fr (hKw2 z hz) (o_4 _ (by omega)) (o_4 _ (by omega)) (o_4 _ (by omega))
  have hKw2 : ∀ z, z < 4 → isT G g f_5 (3 * z + (b2 + 76) + 5) (lw z) (cw z) (gw z) (sw z) := fun z hz => isT_fr (hKw2 z hz) (o_5 _ (by omega)) (o_5 _ (by omega)) (o_5 _ (by omega))
  refine b_callv (va_runV (As := [.ref (g (b2 + 11))]) (rest := []) ⟨hx, hb, hml, hown, hts⟩ (w_copy l G g hg f_5 (b + 11) 20 lf (b2 + 11) lf2 ll cl gl sl hsl hal hsl2 hal2 (by first | assumption | omega | decide) (by first | assumption | omega | decide) (by first | assumption | omega | decide) (by first | assumption | omega | decide) (by first | assumption | omega | decide) (by first | assumption | omega | decide) (by first | assumption | omega | decide) (by first | assumption | omega | decide)) (my_cwV hts ok_X6_copy w_904 rfl rfl ⟨Nat.le_of_ble_eq_true rfl, Nat.le_of_ble_eq_true rfl⟩) ⟨bP.blind, va_recv hG.1 hP (ci := 6) (q0 := (b + 11)) rfl (wl_at (by omega) hsl), fun U hU hW => ⟨rfl, by rw [hU]; exact hP, kG.warm hW hG⟩⟩ rfl rfl hl.1 rfl (lv_room (Nat.le_of_ble_eq_true rfl)) dX0_copy_63 ⟨Nat.le_of_ble_eq_true rfl, Nat.le_of_ble_eq_true rfl⟩) hS (fun f_6 H locs hq9 hP hS => ?_)
  obtain ⟨s96, p97, hx_6_0, hx_6_1, o_6⟩ := hq9
  have hNl : ∀ z, z < 20 → isT G g f_6 (3 * z + (b + 11) + 5) (ll z) (cl z) (s96 z) (p97 z) := hx_6_0
  refine lv_aload_n hx hb dX0_copy_66 rfl (lv_at hl 0 rfl) ?_
  replace hbk : f_6 b = eO 0 [.ref (g (b + 1)), .ref (g (b + 3)), .ref (g (b + 5)), .ref (g (b + 7)), .ref (g (b + 9)), .ref (g (b + 11)), .ref (g (b + 76)), .int pay, .int fine] := ((o_6 b (by omega))).trans hbk
  refine va_get (D := G.1) (ci := 0) (v := .ref (g (b + 76))) (C := RX0) (T := TX0) (N := 9) hx hb hts inlX0 hown hG.1 hP b (wl_at (by omega) hbk) rfl 6 (by decide) (hts (.fieldLink RX0 41 "SwornLists$Book" "texts" "LSwornLists$Shelf;") w_63) (fun _ h9 => h9) rfl dX0_copy_67 ?_
  refine lv_aload_n hx hb dX0_copy_70 rfl (lv_at hl 1 rfl) ?_
  replace hbk2 : f_6 b2 = eO 0 [.ref (g (b2 + 1)), .ref (g (b2 + 3)), .ref (g (b2 + 5)), .ref (g (b2 + 7)), .ref (g (b2 + 9)), .ref (g (b2 + 11)), .ref (g (b2 + 76)), .int pay2, .int fine2] := ((o_6 b2 (by omega))).trans hbk2
  refine va_get (D := G.1) (ci := 0) (v := .ref (g (b2 + 76))) (C := RX0) (T := TX0) (N := 9) hx hb hts inlX0 hown hG.1 hP b2 (wl_at (by omega) hbk2) rfl 6 (by decide) (hts (.fieldLink RX0 41 "SwornLists$Book" "texts" "LSwornLists$Shelf;") w_63) (fun _ h9 => h9) rfl dX0_copy_71 ?_
  replace hsw : f_6 (b + 76) = eO 6 [.ref (g (b + 77)), .ref (g (b + 78))] := ((o_6 (b + 76) (by omega)).trans ((o_5 (b + 76) (by omega)).trans ((o_4 (b + 76) (by omega)).trans ((o_3 (b + 76) (by omega)).trans ((o_2 (b + 76) (by omega)).trans ((o_1 (b + 76) (by omega)))))))).trans hsw
  replace haw : f_6 (b + 77) = eA G 5 4 tf := ((o_6 (b + 77) (by omega)).trans ((o_5 (b + 77) (by omega)).trans ((o_4 (b + 77) (by omega)).trans ((o_3 (b + 77) (by omega)).trans ((o_2 (b + 77) (by omega)).trans ((o_1 (b + 77) (by omega)))))))).trans haw
  replace hsw2 : f_6 (b2 + 76) = eO 6 [.ref (g (b2 + 77)), .ref (g (b2 + 78))] := ((o_6 (b2 + 76) (by omega)).trans ((o_5 (b2 + 76) (by omega)).trans ((o_4 (b2 + 76) (by omega)).trans ((o_3 (b2 + 76) (by omega)).trans ((o_2 (b2 + 76) (by omega)).trans ((o_1 (b2 + 76) (by omega)))))))).trans hsw2
  replace haw2 : f_6 (b2 + 77) = eA G 5 4 tf2 := ((o_6 (b2 + 77) (by omega)).trans ((o_5 (b2 + 77) (by omega)).trans ((o_4 (b2 + 77) (by omega)).trans ((o_3 (b2 + 77) (by omega)).trans ((o_2 (b2 + 77) (by omega)).trans ((o_1 (b2 + 77) (by omega)))))))).trans haw2
  have hKw : ∀ z, z < 4 → okT G g f_6 (3 * z + (b + 76) + 5) := fun z hz => okT_fr (hKw z hz) (o_6 _ (by omega)) (o_6 _ (by omega)) (o_6 _ (by omega))
  have hKl2 : ∀ z, z < 20 → isT G g f_6 (3 * z + (b2 + 11) + 5) (ll z) (cl z) (gl z) (sl z) := fun z hz => isT_fr (hKl2 z hz) (o_6 _ (by omega)) (o_6 _ (by omega)) (o_6 _ (by omega))
  have hKw2 : ∀ z, z < 4 → isT G g f_6 (3 * z + (b2 + 76) + 5) (lw z) (cw z) (gw z) (sw z) := fun z hz => isT_fr (hKw2 z hz) (o_6 _ (by omega)) (o_6 _ (by omega)) (o_6 _ (by omega))
  refine b_callv (va_runV (As := [.ref (g (b2 + 76))]) (rest := []) ⟨hx, hb, hml, hown, hts⟩ (w_copy l G g hg f_6 (b + 76) 4 tf (b2 + 76) tf2 lw cw gw sw hsw haw hsw2 haw2 (by first | assumption | omega | decide) (by first | assumption | omega | decide) (by first | assumption | omega | decide) (by first | assumption | omega | decide) (by first | assumption | omega | decide) (by first | assumption | omega | decide) (by first | assumption | omega | decide) (by first | assumption | omega | decide)) (my_cwV hts ok_X6_copy w_904 rfl rfl ⟨Nat.le_of_ble_eq_true rfl, Nat.le_of_ble_eq_true rfl⟩) ⟨bP.blind, va_recv hG.1 hP (ci := 6) (q0 := (b + 76)) rfl (wl_at (by omega) hsw), fun U hU hW => ⟨rfl, by rw [hU]; exact hP, kG.warm hW hG⟩⟩ rfl rfl hl.1 rfl (lv_room (Nat.le_of_ble_eq_true rfl)) dX0_copy_74 ⟨Nat.le_of_ble_eq_true rfl, Nat.le_of_ble_eq_true rfl⟩) hS (fun f_7 H locs hq9 hP hS => ?_)
  obtain ⟨s98, p99, hx_7_0, hx_7_1, o_7⟩ := hq9
  have hNw : ∀ z, z < 4 → isT G g f_7 (3 * z + (b + 76) + 5) (lw z) (cw z) (s98 z) (p99 z) := hx_7_0
  refine lv_aload_n hx hb dX0_copy_77 rfl (lv_at hl 0 rfl) ?_
  refine lv_aload_n hx hb dX0_copy_78 rfl (lv_at hl 1 rfl) ?_
  replace hbk2 : f_7 b2 = eO 0 [.ref (g (b2 + 1)), .ref (g (b2 + 3)), .ref (g (b2 + 5)), .ref (g (b2 + 7)), .ref (g (b2 + 9)), .ref (g (b2 + 11)), .ref (g (b2 + 76)), .int pay2, .int fine2] := ((o_7 b2 (by omega))).trans hbk2
  refine va_get (D := G.1) (ci := 0) (v := .int pay2) (C := RX0) (T := TX0) (N := 9) hx hb hts inlX0 hown hG.1 hP b2 (wl_at (by omega) hbk2) rfl 7 (by decide) (hts (.fieldLink RX0 44 "SwornLists$Book" "pay" "I") w_64) (fun _ h9 => h9) rfl dX0_copy_79 ?_
  replace hbk : f_7 b = eO 0 [.ref (g (b + 1)), .ref (g (b + 3)), .ref (g (b + 5)), .ref (g (b + 7)), .ref (g (b + 9)), .ref (g (b + 11)), .ref (g (b + 76)), .int pay, .int fine] := ((o_7 b (by omega))).trans hbk
  refine va_put (D := G.1) (ci := 0) (v := .int pay2) (ty := .int) (C := RX0) (T := TX0) (N := 9) hx hb hts inlX0 tyX0 tyX0_ok nmX0 hown hG.1 hP (wl_D hg f_7) hS b (wl_at (by omega) hbk) rfl 7 (by decide) (hts (.fieldLink RX0 44 "SwornLists$Book" "pay" "I") w_64) (fun _ h9 => h9) rfl (by decide +kernel) rfl rfl (Nat.le_of_ble_eq_true rfl) dX0_copy_82 (fun H locs hP _ hS => ?_)
  obtain ⟨f_8, hP, e_8, o_8⟩ := b_put (by omega) hP
  have hbk : f_8 b = eO 0 [.ref (g (b + 1)), .ref (g (b + 3)), .ref (g (b + 5)), .ref (g (b + 7)), .ref (g (b + 9)), .ref (g (b + 11)), .ref (g (b + 76)), .int pay2, .int fine] := e_8
  refine lv_aload_n hx hb dX0_copy_85 rfl (lv_at hl 0 rfl) ?_
  refine lv_aload_n hx hb dX0_copy_86 rfl (lv_at hl 1 rfl) ?_
  replace hbk2 : f_8 b2 = eO 0 [.ref (g (b2 + 1)), .ref (g (b2 + 3)), .ref (g (b2 + 5)), .ref (g (b2 + 7)), .ref (g (b2 + 9)), .ref (g (b2 + 11)), .ref (g (b2 + 76)), .int pay2, .int fine2] := ((o_8 b2 (by omega))).trans hbk2
  refine va_get (D := G.1) (ci := 0) (v := .int fine2) (C := RX0) (T := TX0) (N := 9) hx hb hts inlX0 hown hG.1 hP b2 (wl_at (by omega) hbk2) rfl 8 (by decide) (hts (.fieldLink RX0 48 "SwornLists$Book" "fine" "I") w_65) (fun _ h9 => h9) rfl dX0_copy_87 ?_
  refine va_put (D := G.1) (ci := 0) (v := .int fine2) (ty := .int) (C := RX0) (T := TX0) (N := 9) hx hb hts inlX0 tyX0 tyX0_ok nmX0 hown hG.1 hP (wl_D hg f_8) hS b (wl_at (by omega) hbk) rfl 8 (by decide) (hts (.fieldLink RX0 48 "SwornLists$Book" "fine" "I") w_65) (fun _ h9 => h9) rfl (by decide +kernel) rfl rfl (Nat.le_of_ble_eq_true rfl) dX0_copy_90 (fun H locs hP _ hS => ?_)
  obtain ⟨f_9, hP, e_9, o_9⟩ := b_put (by omega) hP
  have hbk : f_9 b = eO 0 [.ref (g (b + 1)), .ref (g (b + 3)), .ref (g (b + 5)), .ref (g (b + 7)), .ref (g (b + 9)), .ref (g (b + 11)), .ref (g (b + 76)), .int pay2, .int fine2] := e_9
  replace hpr : f_9 (b + 1) = eO 5 [.int (nI 30), .int (nI 4), .ref (g ((b + 1) + 1)), .int (nI np2)] := ((o_9 (b + 1) (by omega)).trans ((o_8 (b + 1) (by omega)).trans ((o_7 (b + 1) (by omega)).trans ((o_6 (b + 1) (by omega)).trans ((o_5 (b + 1) (by omega)).trans ((o_4 (b + 1) (by omega)).trans ((o_3 (b + 1) (by omega)).trans ((o_2 (b + 1) (by omega)))))))))).trans hpr
  replace hpd : f_9 (b + 2) = eI G (30 * 4) dd1 := ((o_9 (b + 2) (by omega)).trans ((o_8 (b + 2) (by omega)).trans ((o_7 (b + 2) (by omega)).trans ((o_6 (b + 2) (by omega)).trans ((o_5 (b + 2) (by omega)).trans ((o_4 (b + 2) (by omega)).trans ((o_3 (b + 2) (by omega)).trans ((o_2 (b + 2) (by omega)))))))))).trans hpd
  replace hfr : f_9 (b + 3) = eO 5 [.int (nI 40), .int (nI 3), .ref (g ((b + 3) + 1)), .int (nI nf2)] := ((o_9 (b + 3) (by omega)).trans ((o_8 (b + 3) (by omega)).trans ((o_7 (b + 3) (by omega)).trans ((o_6 (b + 3) (by omega)).trans ((o_5 (b + 3) (by omega)).trans ((o_4 (b + 3) (by omega)).trans ((o_3 (b + 3) (by omega))))))))).trans hfr
  replace hfd : f_9 (b + 4) = eI G (40 * 3) dd2 := ((o_9 (b + 4) (by omega)).trans ((o_8 (b + 4) (by omega)).trans ((o_7 (b + 4) (by omega)).trans ((o_6 (b + 4) (by omega)).trans ((o_5 (b + 4) (by omega)).trans ((o_4 (b + 4) (by omega)).trans ((o_3 (b + 4) (by omega))))))))).trans hfd
  replace hrr : f_9 (b + 5) = eO 5 [.int (nI 4), .int (nI 3), .ref (g ((b + 5) + 1)), .int (nI nr2)] := ((o_9 (b + 5) (by omega)).trans ((o_8 (b + 5) (by omega)).trans ((o_7 (b + 5) (by omega)).trans ((o_6 (b + 5) (by omega)).trans ((o_5 (b + 5) (by omega)).trans ((o_4 (b + 5) (by omega)))))))).trans hrr
  replace hrd : f_9 (b + 6) = eI G (4 * 3) dd3 := ((o_9 (b + 6) (by omega)).trans ((o_8 (b + 6) (by omega)).trans ((o_7 (b + 6) (by omega)).trans ((o_6 (b + 6) (by omega)).trans ((o_5 (b + 6) (by omega)).trans ((o_4 (b + 6) (by omega)))))))).trans hrd
  replace har : f_9 (b + 7) = eO 5 [.int (nI 20), .int (nI 3), .ref (g ((b + 7) + 1)), .int (nI na2)] := ((o_9 (b + 7) (by omega)).trans ((o_8 (b + 7) (by omega)).trans ((o_7 (b + 7) (by omega)).trans ((o_6 (b + 7) (by omega)).trans ((o_5 (b + 7) (by omega))))))).trans har
  replace had : f_9 (b + 8) = eI G (20 * 3) dd4 := ((o_9 (b + 8) (by omega)).trans ((o_8 (b + 8) (by omega)).trans ((o_7 (b + 8) (by omega)).trans ((o_6 (b + 8) (by omega)).trans ((o_5 (b + 8) (by omega))))))).trans had
  replace htr : f_9 (b + 9) = eO 5 [.int (nI 10), .int (nI 70), .ref (g ((b + 9) + 1)), .int (nI nt2)] := ((o_9 (b + 9) (by omega)).trans ((o_8 (b + 9) (by omega)).trans ((o_7 (b + 9) (by omega)).trans ((o_6 (b + 9) (by omega)))))).trans htr
  replace htd : f_9 (b + 10) = eI G (10 * 70) dd5 := ((o_9 (b + 10) (by omega)).trans ((o_8 (b + 10) (by omega)).trans ((o_7 (b + 10) (by omega)).trans ((o_6 (b + 10) (by omega)))))).trans htd
  replace hsl : f_9 (b + 11) = eO 6 [.ref (g (b + 12)), .ref (g (b + 13))] := ((o_9 (b + 11) (by omega)).trans ((o_8 (b + 11) (by omega)).trans ((o_7 (b + 11) (by omega)).trans ((o_6 (b + 11) (by omega)))))).trans hsl
  replace hal : f_9 (b + 12) = eA G 5 20 lf := ((o_9 (b + 12) (by omega)).trans ((o_8 (b + 12) (by omega)).trans ((o_7 (b + 12) (by omega)).trans ((o_6 (b + 12) (by omega)))))).trans hal
  replace hsw : f_9 (b + 76) = eO 6 [.ref (g (b + 77)), .ref (g (b + 78))] := ((o_9 (b + 76) (by omega)).trans ((o_8 (b + 76) (by omega)).trans ((o_7 (b + 76) (by omega))))).trans hsw
  replace haw : f_9 (b + 77) = eA G 5 4 tf := ((o_9 (b + 77) (by omega)).trans ((o_8 (b + 77) (by omega)).trans ((o_7 (b + 77) (by omega))))).trans haw
  have hNl : ∀ z, z < 20 → isT G g f_7 (3 * z + (b + 11) + 5) (ll z) (cl z) (s96 z) (p97 z) := fun z hz => isT_fr (hNl z hz) (o_7 _ (by omega)) (o_7 _ (by omega)) (o_7 _ (by omega))
  have hNl : ∀ z, z < 20 → isT G g f_8 (3 * z + (b + 11) + 5) (ll z) (cl z) (s96 z) (p97 z) := fun z hz => isT_fr (hNl z hz) (o_8 _ (by omega)) (o_8 _ (by omega)) (o_8 _ (by omega))
  have hNl : ∀ z, z < 20 → isT G g f_9 (3 * z + (b + 11) + 5) (ll z) (cl z) (s96 z) (p97 z) := fun z hz => isT_fr (hNl z hz) (o_9 _ (by omega)) (o_9 _ (by omega)) (o_9 _ (by omega))
  have hNw : ∀ z, z < 4 → isT G g f_8 (3 * z + (b + 76) + 5) (lw z) (cw z) (s98 z) (p99 z) := fun z hz => isT_fr (hNw z hz) (o_8 _ (by omega)) (o_8 _ (by omega)) (o_8 _ (by omega))
  have hNw : ∀ z, z < 4 → isT G g f_9 (3 * z + (b + 76) + 5) (lw z) (cw z) (s98 z) (p99 z) := fun z hz => isT_fr (hNw z hz) (o_9 _ (by omega)) (o_9 _ (by omega)) (o_9 _ (by omega))
  exact W.vret hx hb hr (fun t ht hW => ⟨⟨f_9, rfl, (⟨dd1, dd2, dd3, dd4, dd5, s96, p97, s98, p99, hbk, hpr, hpd, hfr, hfd, hrr, hrd, har, had, htr, htd, hsl, hal, hsw, haw, hx_1_0, hx_2_0, hx_3_0, hx_4_0, hx_5_0, hNl, hx_6_1, hNw, hx_7_1, fun j hj => (((((((((o_9 j (by omega))).trans (o_8 j (by omega))).trans (o_7 j (by omega))).trans (o_6 j (by omega))).trans (o_5 j (by omega))).trans (o_4 j (by omega))).trans (o_3 j (by omega))).trans (o_2 j (by omega))).trans (o_1 j (by omega))⟩), by rw [ht]; exact hP⟩, hS.F ht⟩) hS.2.2 dX0_copy_93

