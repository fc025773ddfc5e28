theorem cancel100 (a b : Int32) : 100 + a - (100 + b) = a - b := Int32.toBitVec_inj.mp (by
  rw [Int32.toBitVec_sub, Int32.toBitVec_add, Int32.toBitVec_add, Int32.toBitVec_sub]
  bv_omega)
theorem div100 {n : Nat} (h : n < 2 ^ 31) : nI n / 100 = nI (n / 100) := pk_div (d := 100) h (by decide) (by decide)
theorem nn_of {a : Int32} (h : 0 ≤ a) : ∃ n, n < 2 ^ 31 ∧ a = nI n := by
  obtain ⟨n, hn, e⟩ := nI_of (Int32.not_lt.mpr h)
  exact ⟨n, hn, e⟩
theorem d100_0 {a : Int32} (h : 0 ≤ a) : ¬ a / 100 ≤ -1 := by
  obtain ⟨n, hn, rfl⟩ := nn_of h
  rw [div100 hn, Int32.le_iff_toInt_le, nI_toInt (by omega)]
  have : (-1 : Int32).toInt = -1 := by decide
  omega
theorem d100_m {a b : Int32} (h0 : 0 ≤ a) (h : a ≤ b) : a / 100 ≤ b / 100 := by
  obtain ⟨n, hn, rfl⟩ := nn_of h0
  obtain ⟨m, hm, rfl⟩ := nn_of (Int32.le_trans h0 h)
  rw [Int32.le_iff_toInt_le, nI_toInt hn, nI_toInt hm] at h
  rw [div100 hn, div100 hm, Int32.le_iff_toInt_le, nI_toInt (by omega), nI_toInt (by omega)]
  omega
/-- the year of the last trial that counted, as the reference keeps it -/
def lyr (T : Nat → Nat → Int32) (J : Nat → Int32) (day : Int32) (p t : Nat) (ly : Int32) : Prop := (satN T J day p t = 0 ∧ ly = -1 ∧ sinV T J day p t = 999) ∨ (¬ satN T J day p t = 0 ∧ ∃ o, o < t ∧ ly = T o 0 / 100 ∧ sinV T J day p t = 100 + day / 100 - (100 + T o 0 / 100))
theorem lyr_n {T : Nat → Nat → Int32} {J : Nat → Int32} {day : Int32} {p t : Nat} {ly : Int32} (h : lyr T J day p t ly) (hn : ¬ (T t 0 < day ∧ bt (J t) p = true)) : lyr T J day p (t + 1) ly := by
  unfold lyr
  rw [satN_n hn, sinV_n hn]
  rcases h with h | ⟨h, o, ho, h1, h2⟩
  · exact Or.inl h
  · exact Or.inr ⟨h, o, by omega, h1, h2⟩
theorem lyr_y {T : Nat → Nat → Int32} {J : Nat → Int32} {day : Int32} {p t fd : Nat} {ly ly' : Int32} (h : lyr T J day p t ly) (hy : T t 0 < day ∧ bt (J t) p = true) (ht : t < fd) (h0 : ∀ o, o < fd → 0 ≤ T o 0) (hm : ∀ o o', o ≤ o' → o' < fd → T o 0 ≤ T o' 0) (hl : (¬ T t 0 / 100 ≤ ly ∧ ly' = T t 0 / 100) ∨ (T t 0 / 100 ≤ ly ∧ ly' = ly)) : lyr T J day p (t + 1) ly' := by
  refine Or.inr ⟨by rw [satN_y hy]; omega, t, by omega, ?_, sinV_y hy⟩
  rcases hl with ⟨_, h9⟩ | ⟨h8, h9⟩
  · exact h9
  · rw [h9]
    rcases h with ⟨_, h1, _⟩ | ⟨_, o, ho, h1, _⟩
    · rw [h1] at h8; exact absurd h8 (d100_0 (h0 t ht))
    · rw [h1] at h8 ⊢
      exact Int32.le_antisymm (d100_m (h0 o (by omega)) (hm o t (by omega) ht)) h8
theorem lyr_e {T : Nat → Nat → Int32} {J : Nat → Int32} {day : Int32} {p t : Nat} {ly : Int32} (h : lyr T J day p t ly) : (satN T J day p t = 0 → sinV T J day p t = 999) ∧ (¬ satN T J day p t = 0 → sinV T J day p t = day / 100 - ly) := by
  rcases h with ⟨h, _, h2⟩ | ⟨h, o, ho, h1, h2⟩
  · exact ⟨fun _ => h2, fun z => absurd h z⟩
  · exact ⟨fun z => absurd z h, fun _ => by rw [h2, h1, cancel100]⟩
theorem stp_drop {a b : Nat → Int32} : ∀ (n i : Nat), i ≤ n → (stp a b n).drop (n - i) = stp a b i := by
  intro n
  induction n with
  | zero => intro i hi; rw [show i = 0 by omega]; rfl
  | succ n ih =>
    intro i hi
    by_cases e : i = n + 1
    · rw [e, Nat.sub_self]; rfl
    · rw [show n + 1 - i = (n - i) + 1 by omega]
      show (stp a b n).drop (n - i) = stp a b i
      exact ih i (by omega)
theorem drp_next {sp wi : Nat → Int32} {sn i : Nat} {l : List (Int32 × Int32)} (h : stp sp wi sn = l) (hi : i < sn) : l.drop (sn - (i + 1)) = (sp i, wi i) :: l.drop (sn - i) ∧ (sp i, wi i) ∈ l := by
  have h1 := stp_drop (a := sp) (b := wi) sn (i + 1) (by omega)
  have h2 := stp_drop (a := sp) (b := wi) sn i (by omega)
  rw [h] at h1 h2
  have h3 : l.drop (sn - (i + 1)) = (sp i, wi i) :: stp sp wi i := h1
  refine ⟨by rw [h3, h2], ?_⟩
  have h4 : (sp i, wi i) ∈ l.drop (sn - (i + 1)) := by rw [h3]; exact List.mem_cons_self
  exact List.mem_of_mem_drop h4
set_option maxHeartbeats 4000000 in
set_option maxRecDepth 100000 in
theorem r_twoOfE (l : Launch) (G : gW) (g : Nat → Nat) (hg : gOK g) (f : Nat → va_E) (n : Int32) (u : Int64) (v : Int64)   : Met l yX11_twoOf (wsT yX11_twoOf cX11_twoOf 5 (some .long)) ({ frames := 0, cells := 0, slots := 0, locals := 0 }) (bP G g f [.int n, .long u, .long v]) (rQl (fun z9 => z9 = two n u v)) 0 0 fr0 := by
  refine Met.ofW (cc := cX11_twoOf) (maxL := 5) (ret := (some .long)) (by decide) rfl ?_
  intro p e s m args below meth c s₁ B hml hv
  obtain ⟨rfl, hP, hG⟩ := hv
  have hx := B.exec
  have hb := B.bytes
  have hr := B.returns
  have hts := my_hts (atoms_spec (ws := wsT yX11_twoOf cX11_twoOf 5 (some .long)) B.pre)
  have hown : s.vm.findClass RX11 = some m.cls := findClass_of_methodNamed B.named
  have hlocks := B.notSynchronized
  have hl := lv_entry ([.int n, .long u, .long v]) (n := 5) (Nat.le_of_ble_eq_true rfl)
  rw [lg_entry_eq]
  generalize (lg_sl ([.int n, .long u, .long v]) ++ List.replicate (5 - (lg_sl ([.int n, .long u, .long v])).length) Slot.unset).toArray = ls at hl ⊢
  have hl : lv_has ls 5 [(0, .int n), (1, .long u), (3, .long v)] := hl
  refine W_q8 (fun Q9 hQ9 => ?_)
  refine lv_iload_n hx hb dX11_twoOf_0 rfl (lv_at hl 0 rfl) ?_
  by_cases e_4 : n = 4
  · refine my_bei e_4 ?_
    refine lv_tableIn (off := 47) (tgt := 48) hx hb dX11_twoOf_1 (by decide) (by decide) (by decide) (by decide) ?_
    refine lv_lload_n hx hb dX11_twoOf_48 rfl (lv_at hl 1 rfl) ?_
    refine lv_lload_n hx hb dX11_twoOf_49 rfl (lv_at hl 2 rfl) ?_
    refine lv_lmul hx hb dX11_twoOf_50 ?_
    refine W_q9 hQ9 ?_
    exact W.lret (v := u * v) hx hb hr (fun _ hT9 _ => ⟨_, rfl, (by unfold two; rw [if_pos e_4]), hT9⟩) (fun _ h => absurd h List.not_mem_nil) dX11_twoOf_51
  by_cases e_5 : n = 5
  · refine my_bei e_5 ?_
    refine lv_tableIn (off := 51) (tgt := 52) hx hb dX11_twoOf_1 (by decide) (by decide) (by decide) (by decide) ?_
    refine lv_lload_n hx hb dX11_twoOf_52 rfl (lv_at hl 2 rfl) ?_
    refine lv_lconst (v := 0) hx hb dX11_twoOf_53 (by decide) ?_
    refine W.lcmp hx hb dX11_twoOf_54 ?_
    refine lv_if_ne (tgt := 62) hx hb dX11_twoOf_55 (by decide) (fun c_55 => ?_) (fun c_55 => ?_)
    · refine lv_lload_n hx hb dX11_twoOf_62 rfl (lv_at hl 1 rfl) ?_
      refine lv_lload_n hx hb dX11_twoOf_63 rfl (lv_at hl 2 rfl) ?_
      refine lv_ldiv hx hb dX11_twoOf_64 (fun z => c_55 ((lg_cmp_eq _ _).mpr z)) ?_
      refine W_q9 hQ9 ?_
      exact W.lret (v := u / v) hx hb hr (fun _ hT9 _ => ⟨_, rfl, (by unfold two; rw [if_neg e_4, if_pos e_5, if_neg (fun z => c_55 ((lg_cmp_eq _ _).mpr z))]), hT9⟩) (fun _ h => absurd h List.not_mem_nil) dX11_twoOf_65
    · refine lv_lconst (v := 0) hx hb dX11_twoOf_58 (by decide) ?_
      refine lv_goto (tgt := 65) hx hb dX11_twoOf_59 (by decide) ?_
      refine W_q9 hQ9 ?_
      exact W.lret (v := 0) hx hb hr (fun _ hT9 _ => ⟨_, rfl, (by unfold two; rw [if_neg e_4, if_pos e_5, if_pos ((lg_cmp_eq _ _).mp c_55)]), hT9⟩) (fun _ h => absurd h List.not_mem_nil) dX11_twoOf_65
  by_cases e_6 : n = 6
  · refine my_bei e_6 ?_
    refine lv_tableIn (off := 65) (tgt := 66) hx hb dX11_twoOf_1 (by decide) (by decide) (by decide) (by decide) ?_
    refine lv_lload_n hx hb dX11_twoOf_66 rfl (lv_at hl 1 rfl) ?_
    refine lv_lload_n hx hb dX11_twoOf_67 rfl (lv_at hl 2 rfl) ?_
    refine lv_ladd hx hb dX11_twoOf_68 ?_
    refine W_q9 hQ9 ?_
    exact W.lret (v := u + v) hx hb hr (fun _ hT9 _ => ⟨_, rfl, (by unfold two; rw [if_neg e_4, if_neg e_5, if_pos e_6]), hT9⟩) (fun _ h => absurd h List.not_mem_nil) dX11_twoOf_69
  by_cases e_7 : n = 7
  · refine my_bei e_7 ?_
    refine lv_tableIn (off := 69) (tgt := 70) hx hb dX11_twoOf_1 (by decide) (by decide) (by decide) (by decide) ?_
    refine lv_lload_n hx hb dX11_twoOf_70 rfl (lv_at hl 1 rfl) ?_
    refine lv_lload_n hx hb dX11_twoOf_71 rfl (lv_at hl 2 rfl) ?_
    refine lv_lsub hx hb dX11_twoOf_72 ?_
    refine W_q9 hQ9 ?_
    exact W.lret (v := u - v) hx hb hr (fun _ hT9 _ => ⟨_, rfl, (by unfold two; rw [if_neg e_4, if_neg e_5, if_neg e_6, if_pos e_7]), hT9⟩) (fun _ h => absurd h List.not_mem_nil) dX11_twoOf_73
  by_cases e_8 : n = 8
  · refine my_bei e_8 ?_
    refine lv_tableIn (off := 73) (tgt := 74) hx hb dX11_twoOf_1 (by decide) (by decide) (by decide) (by decide) ?_
    refine lv_lload_n hx hb dX11_twoOf_74 rfl (lv_at hl 1 rfl) ?_
    refine lv_lload_n hx hb dX11_twoOf_75 rfl (lv_at hl 2 rfl) ?_
    refine W.lcmp hx hb dX11_twoOf_76 ?_
    refine lv_if_ge (tgt := 84) hx hb dX11_twoOf_77 (by decide) (fun c_77 => ?_) (fun c_77 => ?_)
    · refine lv_lconst (v := 0) hx hb dX11_twoOf_84 (by decide) ?_
      refine W_q9 hQ9 ?_
      exact W.lret (v := 0) hx hb hr (fun _ hT9 _ => ⟨_, rfl, (by unfold two; rw [if_neg e_4, if_neg e_5, if_neg e_6, if_neg e_7, if_pos e_8, if_neg (fun z => absurd ((lg_cmp_lt _ _).mpr z) (Int32.not_lt.mpr c_77))]), hT9⟩) (fun _ h => absurd h List.not_mem_nil) dX11_twoOf_85
    · refine lv_lconst (v := 1) hx hb dX11_twoOf_80 (by decide) ?_
      refine lv_goto (tgt := 85) hx hb dX11_twoOf_81 (by decide) ?_
      refine W_q9 hQ9 ?_
      exact W.lret (v := 1) hx hb hr (fun _ hT9 _ => ⟨_, rfl, (by unfold two; rw [if_neg e_4, if_neg e_5, if_neg e_6, if_neg e_7, if_pos e_8, if_pos ((lg_cmp_lt _ _).mp (Int32.not_le.mp c_77))]), hT9⟩) (fun _ h => absurd h List.not_mem_nil) dX11_twoOf_85
  by_cases e_9 : n = 9
  · refine my_bei e_9 ?_
    refine lv_tableIn (off := 85) (tgt := 86) hx hb dX11_twoOf_1 (by decide) (by decide) (by decide) (by decide) ?_
    refine lv_lload_n hx hb dX11_twoOf_86 rfl (lv_at hl 1 rfl) ?_
    refine lv_lload_n hx hb dX11_twoOf_87 rfl (lv_at hl 2 rfl) ?_
    refine W.lcmp hx hb dX11_twoOf_88 ?_
    refine lv_if_le (tgt := 96) hx hb dX11_twoOf_89 (by decide) (fun c_89 => ?_) (fun c_89 => ?_)
    · refine lv_lconst (v := 0) hx hb dX11_twoOf_96 (by decide) ?_
      refine W_q9 hQ9 ?_
      exact W.lret (v := 0) hx hb hr (fun _ hT9 _ => ⟨_, rfl, (by unfold two; rw [if_neg e_4, if_neg e_5, if_neg e_6, if_neg e_7, if_neg e_8, if_pos e_9, if_neg (fun z => absurd ((lg_cmp_gt _ _).mpr z) (Int32.not_lt.mpr c_89))]), hT9⟩) (fun _ h => absurd h List.not_mem_nil) dX11_twoOf_97
    · refine lv_lconst (v := 1) hx hb dX11_twoOf_92 (by decide) ?_
      refine lv_goto (tgt := 97) hx hb dX11_twoOf_93 (by decide) ?_
      refine W_q9 hQ9 ?_
      exact W.lret (v := 1) hx hb hr (fun _ hT9 _ => ⟨_, rfl, (by unfold two; rw [if_neg e_4, if_neg e_5, if_neg e_6, if_neg e_7, if_neg e_8, if_pos e_9, if_pos ((lg_cmp_gt _ _).mp (Int32.not_le.mp c_89))]), hT9⟩) (fun _ h => absurd h List.not_mem_nil) dX11_twoOf_97
  by_cases e_10 : n = 10
  · refine my_bei e_10 ?_
    refine lv_tableIn (off := 97) (tgt := 98) hx hb dX11_twoOf_1 (by decide) (by decide) (by decide) (by decide) ?_
    refine lv_lload_n hx hb dX11_twoOf_98 rfl (lv_at hl 1 rfl) ?_
    refine lv_lload_n hx hb dX11_twoOf_99 rfl (lv_at hl 2 rfl) ?_
    refine W.lcmp hx hb dX11_twoOf_100 ?_
    refine lv_if_ne (tgt := 108) hx hb dX11_twoOf_101 (by decide) (fun c_101 => ?_) (fun c_101 => ?_)
    · refine lv_lconst (v := 0) hx hb dX11_twoOf_108 (by decide) ?_
      refine W_q9 hQ9 ?_
      exact W.lret (v := 0) hx hb hr (fun _ hT9 _ => ⟨_, rfl, (by unfold two; rw [if_neg e_4, if_neg e_5, if_neg e_6, if_neg e_7, if_neg e_8, if_neg e_9, if_pos e_10, if_neg (fun z => c_101 ((lg_cmp_eq _ _).mpr z))]), hT9⟩) (fun _ h => absurd h List.not_mem_nil) dX11_twoOf_109
    · refine lv_lconst (v := 1) hx hb dX11_twoOf_104 (by decide) ?_
      refine lv_goto (tgt := 109) hx hb dX11_twoOf_105 (by decide) ?_
      refine W_q9 hQ9 ?_
      exact W.lret (v := 1) hx hb hr (fun _ hT9 _ => ⟨_, rfl, (by unfold two; rw [if_neg e_4, if_neg e_5, if_neg e_6, if_neg e_7, if_neg e_8, if_neg e_9, if_pos e_10, if_pos ((lg_cmp_eq _ _).mp c_101)]), hT9⟩) (fun _ h => absurd h List.not_mem_nil) dX11_twoOf_109
  by_cases e_11 : n = 11
  · refine my_bei e_11 ?_
    refine lv_tableIn (off := 109) (tgt := 110) hx hb dX11_twoOf_1 (by decide) (by decide) (by decide) (by decide) ?_
    refine lv_lload_n hx hb dX11_twoOf_110 rfl (lv_at hl 1 rfl) ?_
    refine lv_lconst (v := 0) hx hb dX11_twoOf_111 (by decide) ?_
    refine W.lcmp hx hb dX11_twoOf_112 ?_
    refine lv_if_eq (tgt := 126) hx hb dX11_twoOf_113 (by decide) (fun c_113 => ?_) (fun c_113 => ?_)
    · refine lv_lconst (v := 0) hx hb dX11_twoOf_126 (by decide) ?_
      refine W_q9 hQ9 ?_
      exact W.lret (v := 0) hx hb hr (fun _ hT9 _ => ⟨_, rfl, (by unfold two; rw [if_neg e_4, if_neg e_5, if_neg e_6, if_neg e_7, if_neg e_8, if_neg e_9, if_neg e_10, if_pos e_11, if_neg (fun z => z.1 ((lg_cmp_eq _ _).mp c_113))]), hT9⟩) (fun _ h => absurd h List.not_mem_nil) dX11_twoOf_127
    · refine lv_lload_n hx hb dX11_twoOf_116 rfl (lv_at hl 2 rfl) ?_
      refine lv_lconst (v := 0) hx hb dX11_twoOf_117 (by decide) ?_
      refine W.lcmp hx hb dX11_twoOf_118 ?_
      refine lv_if_eq (tgt := 126) hx hb dX11_twoOf_119 (by decide) (fun c_119 => ?_) (fun c_119 => ?_)
      · refine lv_lconst (v := 0) hx hb dX11_twoOf_126 (by decide) ?_
        refine W_q9 hQ9 ?_
        exact W.lret (v := 0) hx hb hr (fun _ hT9 _ => ⟨_, rfl, (by unfold two; rw [if_neg e_4, if_neg e_5, if_neg e_6, if_neg e_7, if_neg e_8, if_neg e_9, if_neg e_10, if_pos e_11, if_neg (fun z => z.2 ((lg_cmp_eq _ _).mp c_119))]), hT9⟩) (fun _ h => absurd h List.not_mem_nil) dX11_twoOf_127
      · refine lv_lconst (v := 1) hx hb dX11_twoOf_122 (by decide) ?_
        refine lv_goto (tgt := 127) hx hb dX11_twoOf_123 (by decide) ?_
        refine W_q9 hQ9 ?_
        exact W.lret (v := 1) hx hb hr (fun _ hT9 _ => ⟨_, rfl, (by unfold two; rw [if_neg e_4, if_neg e_5, if_neg e_6, if_neg e_7, if_neg e_8, if_neg e_9, if_neg e_10, if_pos e_11, if_pos ⟨(fun z => c_113 ((lg_cmp_eq _ _).mpr z)), (fun z => c_119 ((lg_cmp_eq _ _).mpr z))⟩]), hT9⟩) (fun _ h => absurd h List.not_mem_nil) dX11_twoOf_127
  have n_4 : n.toInt ≠ 4 := fun z => e_4 (Int32.toInt_inj.mp (z.trans (by decide)))
  have n_5 : n.toInt ≠ 5 := fun z => e_5 (Int32.toInt_inj.mp (z.trans (by decide)))
  have n_6 : n.toInt ≠ 6 := fun z => e_6 (Int32.toInt_inj.mp (z.trans (by decide)))
  have n_7 : n.toInt ≠ 7 := fun z => e_7 (Int32.toInt_inj.mp (z.trans (by decide)))
  have n_8 : n.toInt ≠ 8 := fun z => e_8 (Int32.toInt_inj.mp (z.trans (by decide)))
  have n_9 : n.toInt ≠ 9 := fun z => e_9 (Int32.toInt_inj.mp (z.trans (by decide)))
  have n_10 : n.toInt ≠ 10 := fun z => e_10 (Int32.toInt_inj.mp (z.trans (by decide)))
  have n_11 : n.toInt ≠ 11 := fun z => e_11 (Int32.toInt_inj.mp (z.trans (by decide)))
  refine lv_tableOut (tgt := 128) hx hb dX11_twoOf_1 (by omega) (by decide) ?_
  refine lv_lload_n hx hb dX11_twoOf_128 rfl (lv_at hl 1 rfl) ?_
  refine lv_lconst (v := 0) hx hb dX11_twoOf_129 (by decide) ?_
  refine W.lcmp hx hb dX11_twoOf_130 ?_
  refine lv_if_ne (tgt := 140) hx hb dX11_twoOf_131 (by decide) (fun c_131 => ?_) (fun c_131 => ?_)
  · refine lv_lconst (v := 1) hx hb dX11_twoOf_140 (by decide) ?_
    refine lv_goto (tgt := 145) hx hb dX11_twoOf_141 (by decide) ?_
    refine W_q9 hQ9 ?_
    exact W.lret (v := 1) hx hb hr (fun _ hT9 _ => ⟨_, rfl, (by unfold two; rw [if_neg e_4, if_neg e_5, if_neg e_6, if_neg e_7, if_neg e_8, if_neg e_9, if_neg e_10, if_neg e_11, if_pos (Or.inl (fun z => c_131 ((lg_cmp_eq _ _).mpr z)))]), hT9⟩) (fun _ h => absurd h List.not_mem_nil) dX11_twoOf_145
  · refine lv_lload_n hx hb dX11_twoOf_134 rfl (lv_at hl 2 rfl) ?_
    refine lv_lconst (v := 0) hx hb dX11_twoOf_135 (by decide) ?_
    refine W.lcmp hx hb dX11_twoOf_136 ?_
    refine lv_if_eq (tgt := 144) hx hb dX11_twoOf_137 (by decide) (fun c_137 => ?_) (fun c_137 => ?_)
    · refine lv_lconst (v := 0) hx hb dX11_twoOf_144 (by decide) ?_
      refine W_q9 hQ9 ?_
      exact W.lret (v := 0) hx hb hr (fun _ hT9 _ => ⟨_, rfl, (by unfold two; rw [if_neg e_4, if_neg e_5, if_neg e_6, if_neg e_7, if_neg e_8, if_neg e_9, if_neg e_10, if_neg e_11, if_neg (fun z => z.elim (fun q => q ((lg_cmp_eq _ _).mp c_131)) (fun q => q ((lg_cmp_eq _ _).mp c_137)))]), hT9⟩) (fun _ h => absurd h List.not_mem_nil) dX11_twoOf_145
    · refine lv_lconst (v := 1) hx hb dX11_twoOf_140 (by decide) ?_
      refine lv_goto (tgt := 145) hx hb dX11_twoOf_141 (by decide) ?_
      refine W_q9 hQ9 ?_
      exact W.lret (v := 1) hx hb hr (fun _ hT9 _ => ⟨_, rfl, (by unfold two; rw [if_neg e_4, if_neg e_5, if_neg e_6, if_neg e_7, if_neg e_8, if_neg e_9, if_neg e_10, if_neg e_11, if_pos (Or.inr (fun z => c_137 ((lg_cmp_eq _ _).mpr z)))]), hT9⟩) (fun _ h => absurd h List.not_mem_nil) dX11_twoOf_145
set_option maxHeartbeats 4000000 in
set_option maxRecDepth 100000 in
theorem r_named0 (l : Launch) (G : gW) (g : Nat → Nat) (hg : gOK g) (f : Nat → va_E) (ab2 : Int64) (be2 : Int64) (sn : Int32) (wn : Int32) (sa : Nat) (ly : Int32) (rdy : Int32) (fd : Int32) (ss : Nat → Int32) (pn : Nat) (sv : Int32) (q : Int32) (hmo : f 315 = eO 10 [.ref (g 316), .ref (g 317), .ref (g 318), .long ab2, .long be2, .int sn, .ref (g 319), .ref (g 320), .int wn, .ref (g 321), .ref (g 322), .int (nI sa), .int ly, .int rdy, .int fd, .ref (g 323), .ref (g 324), .ref (g 325), .ref (g 326), .ref (g 327), .ref (g 328), .ref (g 329), .ref (g 330), .ref (g 331), .ref (g 332)]) (hss_ : f 316 = eI G 2246 ss) (hpn : pn < 30) (hsa : sa ≤ 10) (hsn : (sa = 0 → sv = 999) ∧ (¬ sa = 0 → sv = q / 100 - ly)) : Met l yX11_named (wsT yX11_named cX11_named 5 (some .long)) ({ frames := 0, cells := 0, slots := 0, locals := 0 }) (bP G g f [.ref (g 315), .int (nI pn), .int q, .int 0]) (rQl (fun z9 => z9 = ltk (fun i c => ss (4 * i + c + 10)) sa sv pn q 0)) 0 0 fr0 := by
  refine Met.ofW (cc := cX11_named) (maxL := 5) (ret := (some .long)) (by decide) rfl ?_
  intro p e s m args below meth c s₁ B hml hv
  obtain ⟨rfl, hP, hG⟩ := hv
  have hx := B.exec
  have hb := B.bytes
  have hr := B.returns
  have hts := my_hts (atoms_spec (ws := wsT yX11_named cX11_named 5 (some .long)) B.pre)
  have hown : s.vm.findClass RX11 = some m.cls := findClass_of_methodNamed B.named
  have hlocks := B.notSynchronized
  have hl := lv_entry ([.ref (g 315), .int (nI pn), .int q, .int 0]) (n := 5) (Nat.le_of_ble_eq_true rfl)
  rw [lg_entry_eq]
  generalize (lg_sl ([.ref (g 315), .int (nI pn), .int q, .int 0]) ++ List.replicate (5 - (lg_sl ([.ref (g 315), .int (nI pn), .int q, .int 0])).length) Slot.unset).toArray = ls at hl ⊢
  have hl : lv_has ls 5 [(0, .ref (g 315)), (1, .int (nI pn)), (2, .int q), (3, .int 0)] := hl
  refine W_q8 (fun Q9 hQ9 => ?_)
  refine lv_bipush (v := 10) hx hb dX11_named_0 (by decide) ?_
  refine lv_iconst (v := 4) hx hb dX11_named_2 (by decide) ?_
  refine lv_iload_n hx hb dX11_named_3 rfl (lv_at hl 1 rfl) ?_
  refine lv_imul hx hb dX11_named_4 ?_
  refine my_bei (v := nI (4 * pn)) (pk_mul 4 pn) ?_
  refine lv_iadd hx hb dX11_named_5 ?_
  refine my_bei (v := nI (4 * pn + 10)) ((nI_add 10 (4 * pn)).trans (congrArg nI (show 10 + (4 * pn) = 4 * pn + 10 by omega))) ?_
  refine lv_istore (lv' := [(4, .int (nI (4 * pn + 10))), (0, .ref (g 315)), (1, .int (nI pn)), (2, .int q), (3, .int 0)]) hx hb dX11_named_6 hl (by decide) rfl (fun ls hl => ?_)
  refine lv_iload_n hx hb dX11_named_8 rfl (lv_at hl 4 rfl) ?_
  refine lv_tableIn (off := 35) (tgt := 44) hx hb dX11_named_9 (by decide) (by decide) (by decide) (by decide) ?_
  refine lv_bipush (v := 100) hx hb dX11_named_44 (by decide) ?_
  refine lv_iload_n hx hb dX11_named_46 rfl (lv_at hl 3 rfl) ?_
  refine lv_bipush (v := 100) hx hb dX11_named_47 (by decide) ?_
  refine lv_idiv hx hb dX11_named_49 (by decide) ?_
  refine lv_iadd hx hb dX11_named_50 ?_
  refine lv_aload_n hx hb dX11_named_51 rfl (lv_at hl 1 rfl) ?_
  refine va_get (D := G.1) (ci := 10) (v := .ref (g 316)) (C := RX11) (T := TX11) (N := 25) hx hb hts inlX11 hown hG.1 hP 315 (wl_at (by decide) hmo) rfl 0 (by decide) (hts (.fieldLink RX11 7 "SwornListsModel" "st" "[I") w_112) (fun _ h9 => h9) rfl dX11_named_52 ?_
  refine lv_iload hx hb dX11_named_55 (lv_at hl 0 rfl) ?_
  refine lv_iconst (v := 3) hx hb dX11_named_57 (by decide) ?_
  refine lv_iadd hx hb dX11_named_58 ?_
  refine my_bei (v := nI (4 * pn + 13)) ((nI_add (4 * pn + 10) 3).trans (congrArg nI (show (4 * pn + 10) + 3 = 4 * pn + 13 by omega))) ?_
  refine va_iald hx hb hG.1 hP 316 0 (wl_at (by decide) hss_) rfl (vp_in_nI (by omega) (by decide)) dX11_named_59 ?_
  refine my_bei (v := ss (4 * pn + 13)) (congrArg ss (nI_clamp (n := 4 * pn + 13) (by omega))) ?_
  refine lv_isub hx hb dX11_named_60 ?_
  refine lv_i2l hx hb dX11_named_61 rfl ?_
  refine W_q9 hQ9 ?_
  exact W.lret (v := Int32.toInt64 ((100 + (q / 100)) - (ss (4 * pn + 13)))) hx hb hr (fun _ hT9 _ => ⟨_, rfl, (by unfold ltk lts; rw [show lett 0 = 97 by decide, if_pos rfl]), hT9⟩) (fun _ h => absurd h List.not_mem_nil) dX11_named_62
set_option maxHeartbeats 4000000 in
set_option maxRecDepth 100000 in
theorem r_named1 (l : Launch) (G : gW) (g : Nat → Nat) (hg : gOK g) (f : Nat → va_E) (ab2 : Int64) (be2 : Int64) (sn : Int32) (wn : Int32) (sa : Nat) (ly : Int32) (rdy : Int32) (fd : Int32) (ss : Nat → Int32) (pn : Nat) (sv : Int32) (q : Int32) (hmo : f 315 = eO 10 [.ref (g 316), .ref (g 317), .ref (g 318), .long ab2, .long be2, .int sn, .ref (g 319), .ref (g 320), .int wn, .ref (g 321), .ref (g 322), .int (nI sa), .int ly, .int rdy, .int fd, .ref (g 323), .ref (g 324), .ref (g 325), .ref (g 326), .ref (g 327), .ref (g 328), .ref (g 329), .ref (g 330), .ref (g 331), .ref (g 332)]) (hss_ : f 316 = eI G 2246 ss) (hpn : pn < 30) (hsa : sa ≤ 10) (hsn : (sa = 0 → sv = 999) ∧ (¬ sa = 0 → sv = q / 100 - ly)) : Met l yX11_named (wsT yX11_named cX11_named 5 (some .long)) ({ frames := 0, cells := 0, slots := 0, locals := 0 }) (bP G g f [.ref (g 315), .int (nI pn), .int q, .int 1]) (rQl (fun z9 => z9 = ltk (fun i c => ss (4 * i + c + 10)) sa sv pn q 1)) 0 0 fr0 := by
  refine Met.ofW (cc := cX11_named) (maxL := 5) (ret := (some .long)) (by decide) rfl ?_
  intro p e s m args below meth c s₁ B hml hv
  obtain ⟨rfl, hP, hG⟩ := hv
  have hx := B.exec
  have hb := B.bytes
  have hr := B.returns
  have hts := my_hts (atoms_spec (ws := wsT yX11_named cX11_named 5 (some .long)) B.pre)
  have hown : s.vm.findClass RX11 = some m.cls := findClass_of_methodNamed B.named
  have hlocks := B.notSynchronized
  have hl := lv_entry ([.ref (g 315), .int (nI pn), .int q, .int 1]) (n := 5) (Nat.le_of_ble_eq_true rfl)
  rw [lg_entry_eq]
  generalize (lg_sl ([.ref (g 315), .int (nI pn), .int q, .int 1]) ++ List.replicate (5 - (lg_sl ([.ref (g 315), .int (nI pn), .int q, .int 1])).length) Slot.unset).toArray = ls at hl ⊢
  have hl : lv_has ls 5 [(0, .ref (g 315)), (1, .int (nI pn)), (2, .int q), (3, .int 1)] := hl
  refine W_q8 (fun Q9 hQ9 => ?_)
  refine lv_bipush (v := 10) hx hb dX11_named_0 (by decide) ?_
  refine lv_iconst (v := 4) hx hb dX11_named_2 (by decide) ?_
  refine lv_iload_n hx hb dX11_named_3 rfl (lv_at hl 1 rfl) ?_
  refine lv_imul hx hb dX11_named_4 ?_
  refine my_bei (v := nI (4 * pn)) (pk_mul 4 pn) ?_
  refine lv_iadd hx hb dX11_named_5 ?_
  refine my_bei (v := nI (4 * pn + 10)) ((nI_add 10 (4 * pn)).trans (congrArg nI (show 10 + (4 * pn) = 4 * pn + 10 by omega))) ?_
  refine lv_istore (lv' := [(4, .int (nI (4 * pn + 10))), (0, .ref (g 315)), (1, .int (nI pn)), (2, .int q), (3, .int 1)]) hx hb dX11_named_6 hl (by decide) rfl (fun ls hl => ?_)
  refine lv_iload_n hx hb dX11_named_8 rfl (lv_at hl 4 rfl) ?_
  refine lv_tableIn (off := 54) (tgt := 63) hx hb dX11_named_9 (by decide) (by decide) (by decide) (by decide) ?_
  refine lv_aload_n hx hb dX11_named_63 rfl (lv_at hl 1 rfl) ?_
  refine va_get (D := G.1) (ci := 10) (v := .ref (g 316)) (C := RX11) (T := TX11) (N := 25) hx hb hts inlX11 hown hG.1 hP 315 (wl_at (by decide) hmo) rfl 0 (by decide) (hts (.fieldLink RX11 7 "SwornListsModel" "st" "[I") w_112) (fun _ h9 => h9) rfl dX11_named_64 ?_
  refine lv_iload hx hb dX11_named_67 (lv_at hl 0 rfl) ?_
  refine lv_iconst (v := 2) hx hb dX11_named_69 (by decide) ?_
  refine lv_iadd hx hb dX11_named_70 ?_
  refine my_bei (v := nI (4 * pn + 12)) ((nI_add (4 * pn + 10) 2).trans (congrArg nI (show (4 * pn + 10) + 2 = 4 * pn + 12 by omega))) ?_
  refine va_iald hx hb hG.1 hP 316 0 (wl_at (by decide) hss_) rfl (vp_in_nI (by omega) (by decide)) dX11_named_71 ?_
  refine my_bei (v := ss (4 * pn + 12)) (congrArg ss (nI_clamp (n := 4 * pn + 12) (by omega))) ?_
  refine lv_i2l hx hb dX11_named_72 rfl ?_
  refine W_q9 hQ9 ?_
  exact W.lret (v := Int32.toInt64 (ss (4 * pn + 12))) hx hb hr (fun _ hT9 _ => ⟨_, rfl, (by unfold ltk lts; rw [show lett 1 = 108 by decide, if_neg (by decide), if_pos rfl]), hT9⟩) (fun _ h => absurd h List.not_mem_nil) dX11_named_73
set_option maxHeartbeats 4000000 in
set_option maxRecDepth 100000 in
theorem r_named2 (l : Launch) (G : gW) (g : Nat → Nat) (hg : gOK g) (f : Nat → va_E) (ab2 : Int64) (be2 : Int64) (sn : Int32) (wn : Int32) (sa : Nat) (ly : Int32) (rdy : Int32) (fd : Int32) (ss : Nat → Int32) (pn : Nat) (sv : Int32) (q : Int32) (hmo : f 315 = eO 10 [.ref (g 316), .ref (g 317), .ref (g 318), .long ab2, .long be2, .int sn, .ref (g 319), .ref (g 320), .int wn, .ref (g 321), .ref (g 322), .int (nI sa), .int ly, .int rdy, .int fd, .ref (g 323), .ref (g 324), .ref (g 325), .ref (g 326), .ref (g 327), .ref (g 328), .ref (g 329), .ref (g 330), .ref (g 331), .ref (g 332)]) (hss_ : f 316 = eI G 2246 ss) (hpn : pn < 30) (hsa : sa ≤ 10) (hsn : (sa = 0 → sv = 999) ∧ (¬ sa = 0 → sv = q / 100 - ly)) : Met l yX11_named (wsT yX11_named cX11_named 5 (some .long)) ({ frames := 0, cells := 0, slots := 0, locals := 0 }) (bP G g f [.ref (g 315), .int (nI pn), .int q, .int 2]) (rQl (fun z9 => z9 = ltk (fun i c => ss (4 * i + c + 10)) sa sv pn q 2)) 0 0 fr0 := by
  refine Met.ofW (cc := cX11_named) (maxL := 5) (ret := (some .long)) (by decide) rfl ?_
  intro p e s m args below meth c s₁ B hml hv
  obtain ⟨rfl, hP, hG⟩ := hv
  have hx := B.exec
  have hb := B.bytes
  have hr := B.returns
  have hts := my_hts (atoms_spec (ws := wsT yX11_named cX11_named 5 (some .long)) B.pre)
  have hown : s.vm.findClass RX11 = some m.cls := findClass_of_methodNamed B.named
  have hlocks := B.notSynchronized
  have hl := lv_entry ([.ref (g 315), .int (nI pn), .int q, .int 2]) (n := 5) (Nat.le_of_ble_eq_true rfl)
  rw [lg_entry_eq]
  generalize (lg_sl ([.ref (g 315), .int (nI pn), .int q, .int 2]) ++ List.replicate (5 - (lg_sl ([.ref (g 315), .int (nI pn), .int q, .int 2])).length) Slot.unset).toArray = ls at hl ⊢
  have hl : lv_has ls 5 [(0, .ref (g 315)), (1, .int (nI pn)), (2, .int q), (3, .int 2)] := hl
  refine W_q8 (fun Q9 hQ9 => ?_)
  refine lv_bipush (v := 10) hx hb dX11_named_0 (by decide) ?_
  refine lv_iconst (v := 4) hx hb dX11_named_2 (by decide) ?_
  refine lv_iload_n hx hb dX11_named_3 rfl (lv_at hl 1 rfl) ?_
  refine lv_imul hx hb dX11_named_4 ?_
  refine my_bei (v := nI (4 * pn)) (pk_mul 4 pn) ?_
  refine lv_iadd hx hb dX11_named_5 ?_
  refine my_bei (v := nI (4 * pn + 10)) ((nI_add 10 (4 * pn)).trans (congrArg nI (show 10 + (4 * pn) = 4 * pn + 10 by omega))) ?_
  refine lv_istore (lv' := [(4, .int (nI (4 * pn + 10))), (0, .ref (g 315)), (1, .int (nI pn)), (2, .int q), (3, .int 2)]) hx hb dX11_named_6 hl (by decide) rfl (fun ls hl => ?_)
  refine lv_iload_n hx hb dX11_named_8 rfl (lv_at hl 4 rfl) ?_
  refine lv_tableIn (off := 65) (tgt := 74) hx hb dX11_named_9 (by decide) (by decide) (by decide) (by decide) ?_
  refine lv_aload_n hx hb dX11_named_74 rfl (lv_at hl 1 rfl) ?_
  refine va_get (D := G.1) (ci := 10) (v := .ref (g 316)) (C := RX11) (T := TX11) (N := 25) hx hb hts inlX11 hown hG.1 hP 315 (wl_at (by decide) hmo) rfl 0 (by decide) (hts (.fieldLink RX11 7 "SwornListsModel" "st" "[I") w_112) (fun _ h9 => h9) rfl dX11_named_75 ?_
  refine lv_iload hx hb dX11_named_78 (lv_at hl 0 rfl) ?_
  refine lv_iconst (v := 1) hx hb dX11_named_80 (by decide) ?_
  refine lv_iadd hx hb dX11_named_81 ?_
  refine my_bei (v := nI (4 * pn + 11)) ((nI_add (4 * pn + 10) 1).trans (congrArg nI (show (4 * pn + 10) + 1 = 4 * pn + 11 by omega))) ?_
  refine va_iald hx hb hG.1 hP 316 0 (wl_at (by decide) hss_) rfl (vp_in_nI (by omega) (by decide)) dX11_named_82 ?_
  refine my_bei (v := ss (4 * pn + 11)) (congrArg ss (nI_clamp (n := 4 * pn + 11) (by omega))) ?_
  refine lv_i2l hx hb dX11_named_83 rfl ?_
  refine W_q9 hQ9 ?_
  exact W.lret (v := Int32.toInt64 (ss (4 * pn + 11))) hx hb hr (fun _ hT9 _ => ⟨_, rfl, (by unfold ltk lts; rw [show lett 2 = 116 by decide, if_neg (by decide), if_neg (by decide), if_neg (by decide), if_neg (by decide), if_pos rfl]), hT9⟩) (fun _ h => absurd h List.not_mem_nil) dX11_named_84
set_option maxHeartbeats 4000000 in
set_option maxRecDepth 100000 in
theorem r_named3 (l : Launch) (G : gW) (g : Nat → Nat) (hg : gOK g) (f : Nat → va_E) (ab2 : Int64) (be2 : Int64) (sn : Int32) (wn : Int32) (sa : Nat) (ly : Int32) (rdy : Int32) (fd : Int32) (ss : Nat → Int32) (pn : Nat) (sv : Int32) (q : Int32) (hmo : f 315 = eO 10 [.ref (g 316), .ref (g 317), .ref (g 318), .long ab2, .long be2, .int sn, .ref (g 319), .ref (g 320), .int wn, .ref (g 321), .ref (g 322), .int (nI sa), .int ly, .int rdy, .int fd, .ref (g 323), .ref (g 324), .ref (g 325), .ref (g 326), .ref (g 327), .ref (g 328), .ref (g 329), .ref (g 330), .ref (g 331), .ref (g 332)]) (hss_ : f 316 = eI G 2246 ss) (hpn : pn < 30) (hsa : sa ≤ 10) (hsn : (sa = 0 → sv = 999) ∧ (¬ sa = 0 → sv = q / 100 - ly)) : Met l yX11_named (wsT yX11_named cX11_named 5 (some .long)) ({ frames := 0, cells := 0, slots := 0, locals := 0 }) (bP G g f [.ref (g 315), .int (nI pn), .int q, .int 3]) (rQl (fun z9 => z9 = ltk (fun i c => ss (4 * i + c + 10)) sa sv pn q 3)) 0 0 fr0 := by
  refine Met.ofW (cc := cX11_named) (maxL := 5) (ret := (some .long)) (by decide) rfl ?_
  intro p e s m args below meth c s₁ B hml hv
  obtain ⟨rfl, hP, hG⟩ := hv
  have hx := B.exec
  have hb := B.bytes
  have hr := B.returns
  have hts := my_hts (atoms_spec (ws := wsT yX11_named cX11_named 5 (some .long)) B.pre)
  have hown : s.vm.findClass RX11 = some m.cls := findClass_of_methodNamed B.named
  have hlocks := B.notSynchronized
  have hl := lv_entry ([.ref (g 315), .int (nI pn), .int q, .int 3]) (n := 5) (Nat.le_of_ble_eq_true rfl)
  rw [lg_entry_eq]
  generalize (lg_sl ([.ref (g 315), .int (nI pn), .int q, .int 3]) ++ List.replicate (5 - (lg_sl ([.ref (g 315), .int (nI pn), .int q, .int 3])).length) Slot.unset).toArray = ls at hl ⊢
  have hl : lv_has ls 5 [(0, .ref (g 315)), (1, .int (nI pn)), (2, .int q), (3, .int 3)] := hl
  refine W_q8 (fun Q9 hQ9 => ?_)
  refine lv_bipush (v := 10) hx hb dX11_named_0 (by decide) ?_
  refine lv_iconst (v := 4) hx hb dX11_named_2 (by decide) ?_
  refine lv_iload_n hx hb dX11_named_3 rfl (lv_at hl 1 rfl) ?_
  refine lv_imul hx hb dX11_named_4 ?_
  refine my_bei (v := nI (4 * pn)) (pk_mul 4 pn) ?_
  refine lv_iadd hx hb dX11_named_5 ?_
  refine my_bei (v := nI (4 * pn + 10)) ((nI_add 10 (4 * pn)).trans (congrArg nI (show 10 + (4 * pn) = 4 * pn + 10 by omega))) ?_
  refine lv_istore (lv' := [(4, .int (nI (4 * pn + 10))), (0, .ref (g 315)), (1, .int (nI pn)), (2, .int q), (3, .int 3)]) hx hb dX11_named_6 hl (by decide) rfl (fun ls hl => ?_)
  refine lv_iload_n hx hb dX11_named_8 rfl (lv_at hl 4 rfl) ?_
  refine lv_tableIn (off := 76) (tgt := 85) hx hb dX11_named_9 (by decide) (by decide) (by decide) (by decide) ?_
  refine lv_aload_n hx hb dX11_named_85 rfl (lv_at hl 1 rfl) ?_
  refine va_get (D := G.1) (ci := 10) (v := .ref (g 316)) (C := RX11) (T := TX11) (N := 25) hx hb hts inlX11 hown hG.1 hP 315 (wl_at (by decide) hmo) rfl 0 (by decide) (hts (.fieldLink RX11 7 "SwornListsModel" "st" "[I") w_112) (fun _ h9 => h9) rfl dX11_named_86 ?_
  refine lv_iload hx hb dX11_named_89 (lv_at hl 0 rfl) ?_
  refine va_iald hx hb hG.1 hP 316 0 (wl_at (by decide) hss_) rfl (vp_in_nI (by omega) (by decide)) dX11_named_91 ?_
  refine my_bei (v := ss (4 * pn + 10)) (congrArg ss (nI_clamp (n := 4 * pn + 10) (by omega))) ?_
  refine lv_i2l hx hb dX11_named_92 rfl ?_
  refine W_q9 hQ9 ?_
  exact W.lret (v := Int32.toInt64 (ss (4 * pn + 10))) hx hb hr (fun _ hT9 _ => ⟨_, rfl, (by unfold ltk lts; rw [show lett 3 = 112 by decide, if_neg (by decide), if_neg (by decide), if_pos rfl]), hT9⟩) (fun _ h => absurd h List.not_mem_nil) dX11_named_93
set_option maxHeartbeats 4000000 in
set_option maxRecDepth 100000 in
theorem r_named4 (l : Launch) (G : gW) (g : Nat → Nat) (hg : gOK g) (f : Nat → va_E) (ab2 : Int64) (be2 : Int64) (sn : Int32) (wn : Int32) (sa : Nat) (ly : Int32) (rdy : Int32) (fd : Int32) (ss : Nat → Int32) (pn : Nat) (sv : Int32) (q : Int32) (hmo : f 315 = eO 10 [.ref (g 316), .ref (g 317), .ref (g 318), .long ab2, .long be2, .int sn, .ref (g 319), .ref (g 320), .int wn, .ref (g 321), .ref (g 322), .int (nI sa), .int ly, .int rdy, .int fd, .ref (g 323), .ref (g 324), .ref (g 325), .ref (g 326), .ref (g 327), .ref (g 328), .ref (g 329), .ref (g 330), .ref (g 331), .ref (g 332)]) (hss_ : f 316 = eI G 2246 ss) (hpn : pn < 30) (hsa : sa ≤ 10) (hsn : (sa = 0 → sv = 999) ∧ (¬ sa = 0 → sv = q / 100 - ly)) : Met l yX11_named (wsT yX11_named cX11_named 5 (some .long)) ({ frames := 0, cells := 0, slots := 0, locals := 0 }) (bP G g f [.ref (g 315), .int (nI pn), .int q, .int 4]) (rQl (fun z9 => z9 = ltk (fun i c => ss (4 * i + c + 10)) sa sv pn q 4)) 0 0 fr0 := by
  refine Met.ofW (cc := cX11_named) (maxL := 5) (ret := (some .long)) (by decide) rfl ?_
  intro p e s m args below meth c s₁ B hml hv
  obtain ⟨rfl, hP, hG⟩ := hv
  have hx := B.exec
  have hb := B.bytes
  have hr := B.returns
  have hts := my_hts (atoms_spec (ws := wsT yX11_named cX11_named 5 (some .long)) B.pre)
  have hown : s.vm.findClass RX11 = some m.cls := findClass_of_methodNamed B.named
  have hlocks := B.notSynchronized
  have hl := lv_entry ([.ref (g 315), .int (nI pn), .int q, .int 4]) (n := 5) (Nat.le_of_ble_eq_true rfl)
  rw [lg_entry_eq]
  generalize (lg_sl ([.ref (g 315), .int (nI pn), .int q, .int 4]) ++ List.replicate (5 - (lg_sl ([.ref (g 315), .int (nI pn), .int q, .int 4])).length) Slot.unset).toArray = ls at hl ⊢
  have hl : lv_has ls 5 [(0, .ref (g 315)), (1, .int (nI pn)), (2, .int q), (3, .int 4)] := hl
  refine W_q8 (fun Q9 hQ9 => ?_)
  refine lv_bipush (v := 10) hx hb dX11_named_0 (by decide) ?_
  refine lv_iconst (v := 4) hx hb dX11_named_2 (by decide) ?_
  refine lv_iload_n hx hb dX11_named_3 rfl (lv_at hl 1 rfl) ?_
  refine lv_imul hx hb dX11_named_4 ?_
  refine my_bei (v := nI (4 * pn)) (pk_mul 4 pn) ?_
  refine lv_iadd hx hb dX11_named_5 ?_
  refine my_bei (v := nI (4 * pn + 10)) ((nI_add 10 (4 * pn)).trans (congrArg nI (show 10 + (4 * pn) = 4 * pn + 10 by omega))) ?_
  refine lv_istore (lv' := [(4, .int (nI (4 * pn + 10))), (0, .ref (g 315)), (1, .int (nI pn)), (2, .int q), (3, .int 4)]) hx hb dX11_named_6 hl (by decide) rfl (fun ls hl => ?_)
  refine lv_iload_n hx hb dX11_named_8 rfl (lv_at hl 4 rfl) ?_
  refine lv_tableIn (off := 85) (tgt := 94) hx hb dX11_named_9 (by decide) (by decide) (by decide) (by decide) ?_
  refine lv_aload_n hx hb dX11_named_94 rfl (lv_at hl 1 rfl) ?_
  refine va_get (D := G.1) (ci := 10) (v := .int (nI sa)) (C := RX11) (T := TX11) (N := 25) hx hb hts inlX11 hown hG.1 hP 315 (wl_at (by decide) hmo) rfl 11 (by decide) (hts (.fieldLink RX11 140 "SwornListsModel" "sat" "I") w_552) (fun _ h9 => h9) rfl dX11_named_95 ?_
  refine lv_i2l hx hb dX11_named_98 rfl ?_
  refine W_q9 hQ9 ?_
  exact W.lret (v := Int32.toInt64 (nI sa)) hx hb hr (fun _ hT9 _ => ⟨_, rfl, (by unfold ltk lts; rw [show lett 4 = 115 by decide, if_neg (by decide), if_neg (by decide), if_neg (by decide), if_pos rfl]), hT9⟩) (fun _ h => absurd h List.not_mem_nil) dX11_named_99
set_option maxHeartbeats 4000000 in
set_option maxRecDepth 100000 in
theorem r_named5 (l : Launch) (G : gW) (g : Nat → Nat) (hg : gOK g) (f : Nat → va_E) (ab2 : Int64) (be2 : Int64) (sn : Int32) (wn : Int32) (sa : Nat) (ly : Int32) (rdy : Int32) (fd : Int32) (ss : Nat → Int32) (pn : Nat) (sv : Int32) (q : Int32) (hmo : f 315 = eO 10 [.ref (g 316), .ref (g 317), .ref (g 318), .long ab2, .long be2, .int sn, .ref (g 319), .ref (g 320), .int wn, .ref (g 321), .ref (g 322), .int (nI sa), .int ly, .int rdy, .int fd, .ref (g 323), .ref (g 324), .ref (g 325), .ref (g 326), .ref (g 327), .ref (g 328), .ref (g 329), .ref (g 330), .ref (g 331), .ref (g 332)]) (hss_ : f 316 = eI G 2246 ss) (hpn : pn < 30) (hsa : sa ≤ 10) (hsn : (sa = 0 → sv = 999) ∧ (¬ sa = 0 → sv = q / 100 - ly)) : Met l yX11_named (wsT yX11_named cX11_named 5 (some .long)) ({ frames := 0, cells := 0, slots := 0, locals := 0 }) (bP G g f [.ref (g 315), .int (nI pn), .int q, .int 5]) (rQl (fun z9 => z9 = ltk (fun i c => ss (4 * i + c + 10)) sa sv pn q 5)) 0 0 fr0 := by
  refine Met.ofW (cc := cX11_named) (maxL := 5) (ret := (some .long)) (by decide) rfl ?_
  intro p e s m args below meth c s₁ B hml hv
  obtain ⟨rfl, hP, hG⟩ := hv
  have hx := B.exec
  have hb := B.bytes
  have hr := B.returns
  have hts := my_hts (atoms_spec (ws := wsT yX11_named cX11_named 5 (some .long)) B.pre)
  have hown : s.vm.findClass RX11 = some m.cls := findClass_of_methodNamed B.named
  have hlocks := B.notSynchronized
  have hl := lv_entry ([.ref (g 315), .int (nI pn), .int q, .int 5]) (n := 5) (Nat.le_of_ble_eq_true rfl)
  rw [lg_entry_eq]
  generalize (lg_sl ([.ref (g 315), .int (nI pn), .int q, .int 5]) ++ List.replicate (5 - (lg_sl ([.ref (g 315), .int (nI pn), .int q, .int 5])).length) Slot.unset).toArray = ls at hl ⊢
  have hl : lv_has ls 5 [(0, .ref (g 315)), (1, .int (nI pn)), (2, .int q), (3, .int 5)] := hl
  refine W_q8 (fun Q9 hQ9 => ?_)
  refine lv_bipush (v := 10) hx hb dX11_named_0 (by decide) ?_
  refine lv_iconst (v := 4) hx hb dX11_named_2 (by decide) ?_
  refine lv_iload_n hx hb dX11_named_3 rfl (lv_at hl 1 rfl) ?_
  refine lv_imul hx hb dX11_named_4 ?_
  refine my_bei (v := nI (4 * pn)) (pk_mul 4 pn) ?_
  refine lv_iadd hx hb dX11_named_5 ?_
  refine my_bei (v := nI (4 * pn + 10)) ((nI_add 10 (4 * pn)).trans (congrArg nI (show 10 + (4 * pn) = 4 * pn + 10 by omega))) ?_
  refine lv_istore (lv' := [(4, .int (nI (4 * pn + 10))), (0, .ref (g 315)), (1, .int (nI pn)), (2, .int q), (3, .int 5)]) hx hb dX11_named_6 hl (by decide) rfl (fun ls hl => ?_)
  refine lv_iload_n hx hb dX11_named_8 rfl (lv_at hl 4 rfl) ?_
  refine lv_tableOut (tgt := 100) hx hb dX11_named_9 (by decide) (by decide) ?_
  refine lv_aload_n hx hb dX11_named_100 rfl (lv_at hl 1 rfl) ?_
  refine va_get (D := G.1) (ci := 10) (v := .int (nI sa)) (C := RX11) (T := TX11) (N := 25) hx hb hts inlX11 hown hG.1 hP 315 (wl_at (by decide) hmo) rfl 11 (by decide) (hts (.fieldLink RX11 140 "SwornListsModel" "sat" "I") w_552) (fun _ h9 => h9) rfl dX11_named_101 ?_
  refine lv_if_ne (tgt := 113) hx hb dX11_named_104 (by decide) (fun c_104 => ?_) (fun c_104 => ?_)
  · have k_104 : ¬ sa = 0 := fun z9 => c_104 ((nI_eq (a := sa) (b := 0) (by omega) (by omega)).mpr z9)
    refine lv_iload_n hx hb dX11_named_113 rfl (lv_at hl 3 rfl) ?_
    refine lv_bipush (v := 100) hx hb dX11_named_114 (by decide) ?_
    refine lv_idiv hx hb dX11_named_116 (by decide) ?_
    refine lv_aload_n hx hb dX11_named_117 rfl (lv_at hl 1 rfl) ?_
    refine va_get (D := G.1) (ci := 10) (v := .int ly) (C := RX11) (T := TX11) (N := 25) hx hb hts inlX11 hown hG.1 hP 315 (wl_at (by decide) hmo) rfl 12 (by decide) (hts (.fieldLink RX11 143 "SwornListsModel" "lastYear" "I") w_553) (fun _ h9 => h9) rfl dX11_named_118 ?_
    refine lv_isub hx hb dX11_named_121 ?_
    refine lv_i2l hx hb dX11_named_122 rfl ?_
    refine W_q9 hQ9 ?_
    exact W.lret (v := Int32.toInt64 ((q / 100) - ly)) hx hb hr (fun _ hT9 _ => ⟨_, rfl, (by unfold ltk lts; rw [show lett 5 = 121 by decide, if_neg (by decide), if_neg (by decide), if_neg (by decide), if_neg (by decide), if_neg (by decide), hsn.2 k_104]), hT9⟩) (fun _ h => absurd h List.not_mem_nil) dX11_named_123
  · have k_104 : sa = 0 := (nI_eq (a := sa) (b := 0) (by omega) (by omega)).mp c_104
    refine lv_ldc2 (v := 999) hx hb hown (hts (.constantLong RX11 153 (999)) w_558) dX11_named_107 ?_
    refine lv_goto (tgt := 123) hx hb dX11_named_110 (by decide) ?_
    refine W_q9 hQ9 ?_
    exact W.lret (v := 999) hx hb hr (fun _ hT9 _ => ⟨_, rfl, (by unfold ltk lts; rw [show lett 5 = 121 by decide, if_neg (by decide), if_neg (by decide), if_neg (by decide), if_neg (by decide), if_neg (by decide), hsn.1 k_104]; decide), hT9⟩) (fun _ h => absurd h List.not_mem_nil) dX11_named_123
set_option maxHeartbeats 4000000 in
set_option maxRecDepth 100000 in
theorem r_findSatE (l : Launch) (G : gW) (g : Nat → Nat) (hg : gOK g) (f : Nat → va_E) (ab2 : Int64) (be2 : Int64) (sn : Int32) (wn : Int32) (sa : Int32) (ly : Int32) (rdy : Int32) (fd : Nat) (ss : Nat → Int32) (ju : Nat → Int32) (pn : Nat) (q : Int32) (hmo : f 315 = eO 10 [.ref (g 316), .ref (g 317), .ref (g 318), .long ab2, .long be2, .int sn, .ref (g 319), .ref (g 320), .int wn, .ref (g 321), .ref (g 322), .int sa, .int ly, .int rdy, .int (nI fd), .ref (g 323), .ref (g 324), .ref (g 325), .ref (g 326), .ref (g 327), .ref (g 328), .ref (g 329), .ref (g 330), .ref (g 331), .ref (g 332)]) (hss_ : f 316 = eI G 2246 ss) (hju_ : f 324 = eI G 11 ju) (hfo : fd ≤ 10) (hpn : pn < 30) (hdy : ∀ o, o < fd → 0 ≤ (fun t c => ss (10 * t + c + 1546)) o 0) (hmo2 : ∀ o o', o ≤ o' → o' < fd → (fun t c => ss (10 * t + c + 1546)) o 0 ≤ (fun t c => ss (10 * t + c + 1546)) o' 0) : Met l yX11_findSat (wsT yX11_findSat cX11_findSat 5 none) ({ frames := 1, cells := 0, slots := 0, locals := 22 }) (bP G g f [.ref (g 315), .int (nI pn), .int q]) (bQv G g (fun (f' : Nat → va_E) => ∃ sa9 : Nat, ∃ ly9 : Int32, f' 315 = eO 10 [.ref (g 316), .ref (g 317), .ref (g 318), .long ab2, .long be2, .int sn, .ref (g 319), .ref (g 320), .int wn, .ref (g 321), .ref (g 322), .int (nI sa9), .int ly9, .int rdy, .int (nI fd), .ref (g 323), .ref (g 324), .ref (g 325), .ref (g 326), .ref (g 327), .ref (g 328), .ref (g 329), .ref (g 330), .ref (g 331), .ref (g 332)] ∧ (sa9 = satN (fun t c => ss (10 * t + c + 1546)) ju q pn fd) ∧ ((sa9 = 0 → sinV (fun t c => ss (10 * t + c + 1546)) ju q pn fd = 999) ∧ (¬ sa9 = 0 → sinV (fun t c => ss (10 * t + c + 1546)) ju q pn fd = q / 100 - ly9)) ∧ ∀ j, j ≠ 315 → f' j = f j)) 0 0 (gA g) := by
  refine Met.ofW (cc := cX11_findSat) (maxL := 5) (ret := none) (by decide) rfl ?_
  intro p e s m args below meth c s₁ B hml hv
  obtain ⟨rfl, hP, hG⟩ := hv
  have hx := B.exec
  have hb := B.bytes
  have hr := B.returns
  have hts := my_hts (atoms_spec (ws := wsT yX11_findSat cX11_findSat 5 none) B.pre)
  have hown : s.vm.findClass RX11 = some m.cls := findClass_of_methodNamed B.named
  have hlocks := B.notSynchronized
  have hS : va_S (gA g) s.heap s.heap [] := va_S.rf
  have hl := lv_entry ([.ref (g 315), .int (nI pn), .int q]) (n := 5) (Nat.le_of_ble_eq_true rfl)
  rw [lg_entry_eq]
  generalize (lg_sl ([.ref (g 315), .int (nI pn), .int q]) ++ List.replicate (5 - (lg_sl ([.ref (g 315), .int (nI pn), .int q])).length) Slot.unset).toArray = ls at hl ⊢
  have hl : lv_has ls 5 [(0, .ref (g 315)), (1, .int (nI pn)), (2, .int q)] := hl
  refine W_q8 (fun Q9 hQ9 => ?_)
  refine lv_aload_n hx hb dX11_findSat_0 rfl (lv_at hl 0 rfl) ?_
  refine lv_iconst (v := 0) hx hb dX11_findSat_1 (by decide) ?_
  refine va_put (D := G.1) (ci := 10) (v := .int 0) (ty := .int) (C := RX11) (T := TX11) (N := 25) hx hb hts inlX11 tyX11 tyX11_ok nmX11 hown hG.1 hP (wl_D hg f) hS 315 (wl_at (by decide) hmo) rfl 11 (by decide) (hts (.fieldLink RX11 140 "SwornListsModel" "sat" "I") w_552) (fun _ h9 => h9) rfl (by decide +kernel) rfl rfl (Nat.le_of_ble_eq_true rfl) dX11_findSat_2 (fun H locs hP _ hS => ?_)
  obtain ⟨f_1, hP, e_1, o_1⟩ := b_put (by decide) hP
  have hmo : f_1 315 = eO 10 [.ref (g 316), .ref (g 317), .ref (g 318), .long ab2, .long be2, .int sn, .ref (g 319), .ref (g 320), .int wn, .ref (g 321), .ref (g 322), .int 0, .int ly, .int rdy, .int (nI fd), .ref (g 323), .ref (g 324), .ref (g 325), .ref (g 326), .ref (g 327), .ref (g 328), .ref (g 329), .ref (g 330), .ref (g 331), .ref (g 332)] := e_1
  refine lv_aload_n hx hb dX11_findSat_5 rfl (lv_at hl 0 rfl) ?_
  refine lv_iconst (v := (-1)) hx hb dX11_findSat_6 (by decide) ?_
  refine va_put (D := G.1) (ci := 10) (v := .int (-1)) (ty := .int) (C := RX11) (T := TX11) (N := 25) hx hb hts inlX11 tyX11 tyX11_ok nmX11 hown hG.1 hP (wl_D hg f_1) hS 315 (wl_at (by decide) hmo) rfl 12 (by decide) (hts (.fieldLink RX11 143 "SwornListsModel" "lastYear" "I") w_553) (fun _ h9 => h9) rfl (by decide +kernel) rfl rfl (Nat.le_of_ble_eq_true rfl) dX11_findSat_7 (fun H locs hP _ hS => ?_)
  obtain ⟨f_2, hP, e_2, o_2⟩ := b_put (by decide) hP
  have hmo : f_2 315 = eO 10 [.ref (g 316), .ref (g 317), .ref (g 318), .long ab2, .long be2, .int sn, .ref (g 319), .ref (g 320), .int wn, .ref (g 321), .ref (g 322), .int 0, .int (-1), .int rdy, .int (nI fd), .ref (g 323), .ref (g 324), .ref (g 325), .ref (g 326), .ref (g 327), .ref (g 328), .ref (g 329), .ref (g 330), .ref (g 331), .ref (g 332)] := e_2
  refine lv_iconst (v := 0) hx hb dX11_findSat_10 (by decide) ?_
  refine lv_istore_n (lv' := [(3, .int 0), (0, .ref (g 315)), (1, .int (nI pn)), (2, .int q)]) hx hb dX11_findSat_11 rfl hl (by decide) rfl (fun ls hl => ?_)
  replace hss_ := ((o_2 316 (by decide)).trans ((o_1 316 (by decide)))).trans hss_
  replace hju_ := ((o_2 324 (by decide)).trans ((o_1 324 (by decide)))).trans hju_
  have key1 : ∀ (n9_1 : Nat) (t : Nat) (sa1 : Nat) (ly1 : Int32) (f_3 : Nat → va_E) (H : Heap) (locs : List Loc) (ls : Array Slot), (t ≤ fd) → (sa1 = satN (fun t c => ss (10 * t + c + 1546)) ju q pn t) → (lyr (fun t c => ss (10 * t + c + 1546)) ju q pn t ly1) → fd - t < n9_1 → f_3 315 = eO 10 [.ref (g 316), .ref (g 317), .ref (g 318), .long ab2, .long be2, .int sn, .ref (g 319), .ref (g 320), .int wn, .ref (g 321), .ref (g 322), .int (nI sa1), .int ly1, .int rdy, .int (nI fd), .ref (g 323), .ref (g 324), .ref (g 325), .ref (g 326), .ref (g 327), .ref (g 328), .ref (g 329), .ref (g 330), .ref (g 331), .ref (g 332)] → f_3 316 = eI G 2246 ss → f_3 324 = eI G 11 ju → (∀ j, j ≠ 315 → f_3 j = f_2 j) → va_P G.1 vwCl (wl g f_3) H → va_S (gA g) s.heap H locs → lv_has ls 5 [(0, .ref (g 315)), (1, .int (nI pn)), (2, .int q), (3, .int (nI t))] → W p l e (headSpec (wsT yX11_findSat cX11_findSat 5 none) ({ frames := 1, cells := 0, slots := 0, locals := 22 })).room s m ([.ref (g 315), .int (nI pn), .int q] : List Value).toArray below meth c H locs 0 0 Q9 (F0 m 12 ls []) := by
    intro n9_1
    induction n9_1 with
    | zero => intro t sa1 ly1 f_3 H locs ls hi hsat hly hn9_1; exact absurd hn9_1 (Nat.not_lt_zero _)
    | succ n9_1 ih_1 =>
      intro t sa1 ly1 f_3 H locs ls hi hsat hly hn9_1 hmo hss_ hju_ o_3 hP hS hl
      refine lv_iload_n hx hb dX11_findSat_12 rfl (lv_at hl 3 rfl) ?_
      refine lv_aload_n hx hb dX11_findSat_13 rfl (lv_at hl 0 rfl) ?_
      refine va_get (D := G.1) (ci := 10) (v := .int (nI fd)) (C := RX11) (T := TX11) (N := 25) hx hb hts inlX11 hown hG.1 hP 315 (wl_at (by decide) hmo) rfl 14 (by decide) (hts (.fieldLink RX11 146 "SwornListsModel" "found" "I") w_527) (fun _ h9 => h9) rfl dX11_findSat_14 ?_
      refine lv_icmp_ge (tgt := 92) hx hb dX11_findSat_17 (by decide) (fun c_17 => ?_) (fun c_17 => ?_)
      · have k_17 : fd ≤ t := (nI_leI (a := fd) (b := t) (by omega) (by omega)).mp c_17
        refine W_q9 hQ9 ?_
        exact W.vret hx hb hr (fun _ hT9 _ => ⟨⟨f_3, rfl, (⟨sa1, ly1, hmo, by rw [hsat, show t = fd by omega], (by rw [hsat, ← show t = fd by omega]; exact lyr_e hly), fun j hj => (((o_3 j (by omega))).trans (o_2 j (by omega))).trans (o_1 j (by omega))⟩), by rw [hT9]; exact hP⟩, hS.F hT9⟩) hS.2.2 dX11_findSat_92
      · have k_17 : ¬ fd ≤ t := fun z9 => c_17 ((nI_leI (a := fd) (b := t) (by omega) (by omega)).mpr z9)
        have hsl := satN_le (T := (fun t c => ss (10 * t + c + 1546))) (J := ju) (day := q) (p := pn) t
        refine lv_aload_n hx hb dX11_findSat_20 rfl (lv_at hl 0 rfl) ?_
        refine lv_iload_n hx hb dX11_findSat_21 rfl (lv_at hl 3 rfl) ?_
        refine lv_iconst (v := 0) hx hb dX11_findSat_22 (by decide) ?_
        refine rd_calli (va_runV (As := [.int (nI t), .int 0]) (rest := []) ⟨hx, hb, hml, hown, hts⟩ (r_ofTrial l G g hg f_3 ab2 be2 sn wn (nI sa1) ly1 rdy (nI fd) ss t 0 hmo hss_ (by first | assumption | omega | decide)) (my_cwV hts ok_X11_ofTrial w_532 rfl rfl ⟨Nat.le_of_ble_eq_true rfl, Nat.le_of_ble_eq_true rfl⟩) ⟨bP.blind, va_recv hG.1 hP (ci := 10) (q0 := 315) rfl (wl_at (by decide) hmo), fun U hU hW => ⟨rfl, by rw [hU]; exact hP, kG.warm hW hG⟩⟩ rfl rfl hl.1 rfl (lv_room (Nat.le_of_ble_eq_true rfl)) dX11_findSat_23 ⟨Nat.le_of_ble_eq_true rfl, Nat.le_of_ble_eq_true rfl⟩) (fun r hr9 => ?_)
        subst hr9
        refine my_bei (v := ss (10 * t + 1546)) (congrArg ss (show 10 * t + 0 + 1546 = 10 * t + 1546 by omega)) ?_
        refine lv_istore (lv' := [(4, .int (ss (10 * t + 1546))), (0, .ref (g 315)), (1, .int (nI pn)), (2, .int q), (3, .int (nI t))]) hx hb dX11_findSat_26 hl (by decide) rfl (fun ls hl => ?_)
        refine lv_iload hx hb dX11_findSat_28 (lv_at hl 0 rfl) ?_
        refine lv_iload_n hx hb dX11_findSat_30 rfl (lv_at hl 3 rfl) ?_
        refine lv_icmp_ge (tgt := 86) hx hb dX11_findSat_31 (by decide) (fun c_31 => ?_) (fun c_31 => ?_)
        · refine lv_iinc (v := nI (t + 1)) (lv' := [(3, .int (nI (t + 1))), (4, .int (ss (10 * t + 1546))), (0, .ref (g 315)), (1, .int (nI pn)), (2, .int q)]) hx hb dX11_findSat_86 hl (k := 4) rfl (nI_add t 1) (by decide) rfl (fun ls hl => ?_)
          refine lv_goto (tgt := 12) hx hb dX11_findSat_89 (by decide) ?_
          exact ih_1 (t + 1) sa1 ly1 f_3 _ _ _ (by omega) (by rw [hsat, satN_n (T := (fun t c => ss (10 * t + c + 1546))) (J := ju) (fun z => absurd z.1 (Int32.not_lt.mpr c_31))]) (lyr_n (T := (fun t c => ss (10 * t + c + 1546))) (J := ju) hly (fun z => absurd z.1 (Int32.not_lt.mpr c_31))) (by omega) (hmo) (hss_) (hju_) (fun j hj => (o_3 j (by omega))) hP hS (lv_sub hl [2, 3, 4, 0] rfl)
        · refine lv_aload_n hx hb dX11_findSat_34 rfl (lv_at hl 1 rfl) ?_
          refine va_get (D := G.1) (ci := 10) (v := .ref (g 324)) (C := RX11) (T := TX11) (N := 25) hx hb hts inlX11 hown hG.1 hP 315 (wl_at (by decide) hmo) rfl 16 (by decide) (hts (.fieldLink RX11 36 "SwornListsModel" "juries" "[I") w_120) (fun _ h9 => h9) rfl dX11_findSat_35 ?_
          refine lv_iload_n hx hb dX11_findSat_38 rfl (lv_at hl 4 rfl) ?_
          refine va_iald hx hb hG.1 hP 324 0 (wl_at (by decide) hju_) rfl (vp_in_nI (by omega) (by decide)) dX11_findSat_39 ?_
          refine my_bei (v := ju t) (congrArg ju (nI_clamp (n := t) (by omega))) ?_
          refine lv_iload_n hx hb dX11_findSat_40 rfl (lv_at hl 2 rfl) ?_
          refine lv_ishr hx hb dX11_findSat_41 ?_
          refine lv_iconst (v := 1) hx hb dX11_findSat_42 (by decide) ?_
          refine lv_iand hx hb dX11_findSat_43 ?_
          refine lv_iconst (v := 1) hx hb dX11_findSat_44 (by decide) ?_
          refine lv_icmp_ne (tgt := 86) hx hb dX11_findSat_45 (by decide) (fun c_45 => ?_) (fun c_45 => ?_)
          · refine lv_iinc (v := nI (t + 1)) (lv' := [(3, .int (nI (t + 1))), (4, .int (ss (10 * t + 1546))), (0, .ref (g 315)), (1, .int (nI pn)), (2, .int q)]) hx hb dX11_findSat_86 hl (k := 4) rfl (nI_add t 1) (by decide) rfl (fun ls hl => ?_)
            refine lv_goto (tgt := 12) hx hb dX11_findSat_89 (by decide) ?_
            exact ih_1 (t + 1) sa1 ly1 f_3 _ _ _ (by omega) (by rw [hsat, satN_n (T := (fun t c => ss (10 * t + c + 1546))) (J := ju) (fun z => c_45 ((sr_iff (by omega)).mpr z.2))]) (lyr_n (T := (fun t c => ss (10 * t + c + 1546))) (J := ju) hly (fun z => c_45 ((sr_iff (by omega)).mpr z.2))) (by omega) (hmo) (hss_) (hju_) (fun j hj => (o_3 j (by omega))) hP hS (lv_sub hl [2, 3, 4, 0] rfl)
          · refine lv_aload_n hx hb dX11_findSat_48 rfl (lv_at hl 1 rfl) ?_
            refine lv_dup hx hb dX11_findSat_49 rfl ?_
            refine va_get (D := G.1) (ci := 10) (v := .int (nI sa1)) (C := RX11) (T := TX11) (N := 25) hx hb hts inlX11 hown hG.1 hP 315 (wl_at (by decide) hmo) rfl 11 (by decide) (hts (.fieldLink RX11 140 "SwornListsModel" "sat" "I") w_552) (fun _ h9 => h9) rfl dX11_findSat_50 ?_
            refine lv_iconst (v := 1) hx hb dX11_findSat_53 (by decide) ?_
            refine lv_iadd hx hb dX11_findSat_54 ?_
            refine my_bei (v := nI (sa1 + 1)) (nI_add sa1 1) ?_
            refine va_put (D := G.1) (ci := 10) (v := .int (nI (sa1 + 1))) (ty := .int) (C := RX11) (T := TX11) (N := 25) hx hb hts inlX11 tyX11 tyX11_ok nmX11 hown hG.1 hP (wl_D hg f_3) hS 315 (wl_at (by decide) hmo) rfl 11 (by decide) (hts (.fieldLink RX11 140 "SwornListsModel" "sat" "I") w_552) (fun _ h9 => h9) rfl (by decide +kernel) rfl rfl (Nat.le_of_ble_eq_true rfl) dX11_findSat_55 (fun H locs hP _ hS => ?_)
            obtain ⟨f_4, hP, e_4, o_4⟩ := b_put (by decide) hP
            have hmo : f_4 315 = eO 10 [.ref (g 316), .ref (g 317), .ref (g 318), .long ab2, .long be2, .int sn, .ref (g 319), .ref (g 320), .int wn, .ref (g 321), .ref (g 322), .int (nI (sa1 + 1)), .int ly1, .int rdy, .int (nI fd), .ref (g 323), .ref (g 324), .ref (g 325), .ref (g 326), .ref (g 327), .ref (g 328), .ref (g 329), .ref (g 330), .ref (g 331), .ref (g 332)] := e_4
            refine lv_aload_n hx hb dX11_findSat_58 rfl (lv_at hl 1 rfl) ?_
            refine lv_iload hx hb dX11_findSat_59 (lv_at hl 0 rfl) ?_
            refine lv_bipush (v := 100) hx hb dX11_findSat_61 (by decide) ?_
            refine lv_idiv hx hb dX11_findSat_63 (by decide) ?_
            refine lv_aload_n hx hb dX11_findSat_64 rfl (lv_at hl 1 rfl) ?_
            refine va_get (D := G.1) (ci := 10) (v := .int ly1) (C := RX11) (T := TX11) (N := 25) hx hb hts inlX11 hown hG.1 hP 315 (wl_at (by decide) hmo) rfl 12 (by decide) (hts (.fieldLink RX11 143 "SwornListsModel" "lastYear" "I") w_553) (fun _ h9 => h9) rfl dX11_findSat_65 ?_
            refine lv_icmp_le (tgt := 79) hx hb dX11_findSat_68 (by decide) (fun c_68 => ?_) (fun c_68 => ?_)
            · refine lv_aload_n hx hb dX11_findSat_79 rfl (lv_at hl 1 rfl) ?_
              refine va_get (D := G.1) (ci := 10) (v := .int ly1) (C := RX11) (T := TX11) (N := 25) hx hb hts inlX11 hown hG.1 hP 315 (wl_at (by decide) hmo) rfl 12 (by decide) (hts (.fieldLink RX11 143 "SwornListsModel" "lastYear" "I") w_553) (fun _ h9 => h9) rfl dX11_findSat_80 ?_
              refine va_put (D := G.1) (ci := 10) (v := .int ly1) (ty := .int) (C := RX11) (T := TX11) (N := 25) hx hb hts inlX11 tyX11 tyX11_ok nmX11 hown hG.1 hP (wl_D hg f_4) hS 315 (wl_at (by decide) hmo) rfl 12 (by decide) (hts (.fieldLink RX11 143 "SwornListsModel" "lastYear" "I") w_553) (fun _ h9 => h9) rfl (by decide +kernel) rfl rfl (Nat.le_of_ble_eq_true rfl) dX11_findSat_83 (fun H locs hP _ hS => ?_)
              obtain ⟨f_5, hP, e_5, o_5⟩ := b_put (by decide) hP
              have hmo : f_5 315 = eO 10 [.ref (g 316), .ref (g 317), .ref (g 318), .long ab2, .long be2, .int sn, .ref (g 319), .ref (g 320), .int wn, .ref (g 321), .ref (g 322), .int (nI (sa1 + 1)), .int ly1, .int rdy, .int (nI fd), .ref (g 323), .ref (g 324), .ref (g 325), .ref (g 326), .ref (g 327), .ref (g 328), .ref (g 329), .ref (g 330), .ref (g 331), .ref (g 332)] := e_5
              refine lv_iinc (v := nI (t + 1)) (lv' := [(3, .int (nI (t + 1))), (4, .int (ss (10 * t + 1546))), (0, .ref (g 315)), (1, .int (nI pn)), (2, .int q)]) hx hb dX11_findSat_86 hl (k := 4) rfl (nI_add t 1) (by decide) rfl (fun ls hl => ?_)
              refine lv_goto (tgt := 12) hx hb dX11_findSat_89 (by decide) ?_
              replace hss_ := ((o_5 316 (by decide)).trans ((o_4 316 (by decide)))).trans hss_
              replace hju_ := ((o_5 324 (by decide)).trans ((o_4 324 (by decide)))).trans hju_
              exact ih_1 (t + 1) (sa1 + 1) ly1 f_5 _ _ _ (by omega) (by rw [hsat, satN_y (T := (fun t c => ss (10 * t + c + 1546))) (J := ju) ⟨Int32.not_le.mp c_31, (sr_iff (by omega)).mp c_45⟩]) (lyr_y (T := (fun t c => ss (10 * t + c + 1546))) (J := ju) hly ⟨Int32.not_le.mp c_31, (sr_iff (by omega)).mp c_45⟩ (by omega) hdy hmo2 (Or.inr ⟨c_68, rfl⟩)) (by omega) (hmo) (hss_) (hju_) (fun j hj => (((o_5 j (by omega))).trans (o_4 j (by omega))).trans (o_3 j (by omega))) hP hS (lv_sub hl [2, 3, 4, 0] rfl)
            · refine lv_iload hx hb dX11_findSat_71 (lv_at hl 0 rfl) ?_
              refine lv_bipush (v := 100) hx hb dX11_findSat_73 (by decide) ?_
              refine lv_idiv hx hb dX11_findSat_75 (by decide) ?_
              refine lv_goto (tgt := 83) hx hb dX11_findSat_76 (by decide) ?_
              refine va_put (D := G.1) (ci := 10) (v := .int ((ss (10 * t + 1546)) / 100)) (ty := .int) (C := RX11) (T := TX11) (N := 25) hx hb hts inlX11 tyX11 tyX11_ok nmX11 hown hG.1 hP (wl_D hg f_4) hS 315 (wl_at (by decide) hmo) rfl 12 (by decide) (hts (.fieldLink RX11 143 "SwornListsModel" "lastYear" "I") w_553) (fun _ h9 => h9) rfl (by decide +kernel) rfl rfl (Nat.le_of_ble_eq_true rfl) dX11_findSat_83 (fun H locs hP _ hS => ?_)
              obtain ⟨f_6, hP, e_6, o_6⟩ := b_put (by decide) hP
              have hmo : f_6 315 = eO 10 [.ref (g 316), .ref (g 317), .ref (g 318), .long ab2, .long be2, .int sn, .ref (g 319), .ref (g 320), .int wn, .ref (g 321), .ref (g 322), .int (nI (sa1 + 1)), .int ((ss (10 * t + 1546)) / 100), .int rdy, .int (nI fd), .ref (g 323), .ref (g 324), .ref (g 325), .ref (g 326), .ref (g 327), .ref (g 328), .ref (g 329), .ref (g 330), .ref (g 331), .ref (g 332)] := e_6
              refine lv_iinc (v := nI (t + 1)) (lv' := [(3, .int (nI (t + 1))), (4, .int (ss (10 * t + 1546))), (0, .ref (g 315)), (1, .int (nI pn)), (2, .int q)]) hx hb dX11_findSat_86 hl (k := 4) rfl (nI_add t 1) (by decide) rfl (fun ls hl => ?_)
              refine lv_goto (tgt := 12) hx hb dX11_findSat_89 (by decide) ?_
              replace hss_ := ((o_6 316 (by decide)).trans ((o_4 316 (by decide)))).trans hss_
              replace hju_ := ((o_6 324 (by decide)).trans ((o_4 324 (by decide)))).trans hju_
              exact ih_1 (t + 1) (sa1 + 1) ((ss (10 * t + 1546)) / 100) f_6 _ _ _ (by omega) (by rw [hsat, satN_y (T := (fun t c => ss (10 * t + c + 1546))) (J := ju) ⟨Int32.not_le.mp c_31, (sr_iff (by omega)).mp c_45⟩]) (lyr_y (T := (fun t c => ss (10 * t + c + 1546))) (J := ju) hly ⟨Int32.not_le.mp c_31, (sr_iff (by omega)).mp c_45⟩ (by omega) hdy hmo2 (Or.inl ⟨c_68, rfl⟩)) (by omega) (hmo) (hss_) (hju_) (fun j hj => (((o_6 j (by omega))).trans (o_4 j (by omega))).trans (o_3 j (by omega))) hP hS (lv_sub hl [2, 3, 4, 0] rfl)
  exact key1 (fd + 1) 0 0 (-1) f_2 _ _ _ (Nat.zero_le _) (rfl) (Or.inl ⟨rfl, rfl, rfl⟩) (by omega) (hmo) (hss_) (hju_) (fun j _ => rfl) hP hS (lv_sub hl [1, 2, 3, 0] rfl)

