theorem ok_X0_lawOf : okV yX0_lawOf cX0_lawOf 4 (some (.object "SwornLists$Text")) 2 := ⟨⟨w_397, w_34, ⟨by decide +kernel, by decide +kernel, by decide +kernel⟩⟩, trivial, w_395, w_396⟩
set_option maxHeartbeats 4000000 in
set_option maxRecDepth 100000 in
theorem w_get (l : Launch) (G : gW) (g : Nat → Nat) (hg : gOK g) (f : Nat → va_E) (k : Nat) (N : Nat) (tf : Nat → Option Nat) (i : Nat) (hsh : f k = eO 6 [.ref (g (k + 1)), .ref (g (k + 2))]) (hta : f (k + 1) = eA G 5 N tf) (hk3 : k + 1 < 333) (hN : N ≤ 20) (hi : i < N) (htf : ∀ z, z < N → tf z = some (g (k + 3 * z + 5))) : Met l yX6_get (wsT yX6_get cX6_get 2 (some (.object "SwornLists$Text"))) ({ frames := 0, cells := 0, slots := 0, locals := 0 }) (bP G g f [.ref (g k), .int (nI i)]) (rQa (fun z9 => z9 = .ref (g (k + 3 * i + 5)))) 0 0 fr0 := by
  refine Met.ofW (cc := cX6_get) (maxL := 2) (ret := (some (.object "SwornLists$Text"))) (by decide) rfl ?_
  intro p e s m args below meth c s₁ B hml hv
  obtain ⟨rfl, hP, hG⟩ := hv
  have hx := B.exec
  have hb := B.bytes
  have hr := B.returns
  have hts := my_hts (atoms_spec (ws := wsT yX6_get cX6_get 2 (some (.object "SwornLists$Text"))) B.pre)
  have hown : s.vm.findClass RX6 = some m.cls := findClass_of_methodNamed B.named
  have hlocks := B.notSynchronized
  have hl := lv_entry ([.ref (g k), .int (nI i)]) (n := 2) (Nat.le_of_ble_eq_true rfl)
  rw [lg_entry_eq]
  generalize (lg_sl ([.ref (g k), .int (nI i)]) ++ List.replicate (2 - (lg_sl ([.ref (g k), .int (nI i)])).length) Slot.unset).toArray = ls at hl ⊢
  have hl : lv_has ls 2 [(0, .ref (g k)), (1, .int (nI i))] := hl
  refine lv_iload_n hx hb dX6_get_0 rfl (lv_at hl 1 rfl) ?_
  refine lv_if_lt (tgt := 22) hx hb dX6_get_1 (by decide) (fun c_1 => absurd c_1 (nI_pos (by omega))) (fun c_1 => ?_)
  refine lv_iload_n hx hb dX6_get_4 rfl (lv_at hl 1 rfl) ?_
  refine lv_aload_n hx hb dX6_get_5 rfl (lv_at hl 0 rfl) ?_
  refine va_get (D := G.1) (ci := 6) (v := .ref (g (k + 1))) (C := RX6) (T := TX6) (N := 2) hx hb hts inlX6 hown hG.1 hP k (wl_at (by omega) hsh) rfl 0 (by decide) (hts (.fieldLink RX6 16 "SwornLists$Shelf" "texts" "[LSwornLists$Text;") w_82) (fun _ h9 => h9) rfl dX6_get_6 ?_
  refine va_alen hx hb hG.1 hP (k + 1) 5 (wl_at (by omega) hta) rfl rfl dX6_get_9 ?_
  refine lv_icmp_ge (tgt := 22) hx hb dX6_get_10 (by decide) (fun c_10 => absurd c_10 (fun z => absurd ((nI_leI (by omega) (by omega)).mp z) (by omega))) (fun c_10 => ?_)
  refine lv_aload_n hx hb dX6_get_13 rfl (lv_at hl 0 rfl) ?_
  refine va_get (D := G.1) (ci := 6) (v := .ref (g (k + 1))) (C := RX6) (T := TX6) (N := 2) hx hb hts inlX6 hown hG.1 hP k (wl_at (by omega) hsh) rfl 0 (by decide) (hts (.fieldLink RX6 16 "SwornLists$Shelf" "texts" "[LSwornLists$Text;") w_82) (fun _ h9 => h9) rfl dX6_get_14 ?_
  refine lv_iload_n hx hb dX6_get_17 rfl (lv_at hl 1 rfl) ?_
  refine va_aldq hx hb hG.1 hP (k + 1) 5 (wl_at (by omega) hta) rfl (vp_in_nI hi (by omega)) dX6_get_18 ?_
  refine my_bea (v := .ref (g (k + 3 * i + 5))) (by rw [nI_clamp (by omega), htf i hi]; rfl) ?_
  refine lv_goto (tgt := 26) hx hb dX6_get_19 (by decide) ?_
  exact W.aret (v := .ref (g (k + 3 * i + 5))) hx hb hr (Or.inl ⟨_, rfl⟩) (Or.inr ⟨_, rfl⟩) (fun t ht hW => ⟨_, rfl, (rfl), ht⟩) (fun _ h => absurd h List.not_mem_nil) dX6_get_26

