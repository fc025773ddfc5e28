-- ===== end of PART A; then your names; then what follows =====
/-! THE CLAIM OUT OF ONE WALK OF THE LAW'S BODY. Your part is whole_start (and what it stands on); all else here is the same for every law, but numbers. -/
def R_law : String := "SwornListsLaw"
def lw_P (b : Addr) (xs : List Int32) (args : Array Value) (s : State) : Prop := args = #[.ref b] ∧ s.IntsAt b xs ∧ xs.length ≤ 10 ∧ (Jvm.Cond.and given_1 narrow_1).before args s = true
def lw_Q (_ : Array Value) (s : State) (o : Outcome) (t : State) : Prop := o = .returned (some (.int 1)) ∧ Framed s o t [] 600000 7302249
def lw_Z (below : List Frame) (a : Array Value) (s : State) : State → Prop := fun t => ∃ o, t.status = .running ∧ Ended t below o ∧ lw_Q a s o t
/-- the law's own end, with 1 on the stack, nothing written that was there before, its room as the claim has it -/
theorem lw_ret {p : Program} {l : Launch} {e : Env} {s : State} {m : MethodId} {below : List Frame} {meth : Method} {c : Code} {b : Nat} (hx : p.tables.exec = Jvm.exec) (hb : c.code = code) (hr : meth.sig.returnType = ret) (hlocks : meth.locks = false) {pc : Nat} {H : Heap} {ls : Array Slot} (hdg : decode code pc = .ok (.ireturn, 1)) : W p l e room_1 s m #[Value.ref b] below meth c H [] 600000 7302249 (lw_Z below #[Value.ref b] s) (F0 m pc ls [.int 1]) := by
  intro T hT X
  obtain ⟨fs, hret, hrun, hended, hW, hframe⟩ := X.leave (v := some (.int 1)) (hlocks := hlocks) (fun h => by rw [hr] at h; cases h)
  have hmeth' : T.vm.method? m = some meth := X.method'
  refine ⟨T.setFrames fs, ?_, .returned (some (.int 1)), hrun, hended, rfl, ⟨_, rfl⟩, hW, hframe⟩
  jvm_step X.here [X.here.top, hx, hb, hdg, hmeth', hr, ret, narrow_b1]
  (try refine ⟨rfl, ?_⟩); (try refine ⟨rfl, ?_⟩)
  first | (intro acts; rw [hret _ acts rfl rfl rfl]) | rw [hret _ _ rfl rfl rfl]
  exact Steps.refl _
/-- what holds at the law's entry: the machine, the code, the tables' words (any of lw_tbl by 'hts w (by decide +kernel)'), the script of L ints xs at the cell b, what the Statement gives of the start (any of its parts by flat_of_before) -/
def lw_At (p : Program) (s : State) (m : MethodId) (meth : Method) (c : Code) (b L : Nat) (xs : Nat → Int32) : Prop :=
  p.tables.exec = Jvm.exec ∧ c.code = code ∧ meth.sig.returnType = ret ∧ c.maxLocals = 4 ∧ s.vm.findClass R_law = some m.cls ∧ (∀ w ∈ lw_tbl, w.before #[Value.ref b] s = true) ∧ va_X b L xs s s.heap ∧ b < s.heap.size ∧ meth.locks = false ∧ (Jvm.Cond.and given_1 narrow_1).before #[Value.ref b] s = true
abbrev lwW (G : gW) (x : Nat) (g : Nat → Nat) (mo : Nat) (h : Nat → Nat) : va_W := [(x, eO 9 [.ref (g 0), .ref (g 1), .ref (g 2), .ref (g 3), .ref (g 4), .ref (g 5), .ref (g 6)]), (g 0, eO 1 [.ref (g 1), .ref (g 12), .ref (g 13), .ref (g 14), .int 0]), (g 1, eO 0 [.ref (g 101), .ref (g 103), .ref (g 105), .ref (g 107), .ref (g 109), .ref (g 111), .ref (g 174), .int 5, .int 20]), (g 101, eO 5 [.int 30, .int 4, .ref (g 102), .int 0]), (g 102, eI G 120 (fun _ => 0)), (g 103, eO 5 [.int 40, .int 3, .ref (g 104), .int 0]), (g 104, eI G 120 (fun _ => 0)), (g 105, eO 5 [.int 4, .int 3, .ref (g 106), .int 0]), (g 106, eI G 12 (fun _ => 0)), (g 107, eO 5 [.int 20, .int 3, .ref (g 108), .int 0]), (g 108, eI G 60 (fun _ => 0)), (g 109, eO 5 [.int 10, .int 70, .ref (g 110), .int 0]), (g 110, eI G 700 (fun _ => 0)), (g 111, eO 6 [.ref (g 112), .ref (g 113)]), (g 112, eA G 5 20 (aL [g 114, g 117, g 120, g 123, g 126, g 129, g 132, g 135, g 138, g 141, g 144, g 147, g 150, g 153, g 156, g 159, g 162, g 165, g 168, g 171])), (g 114, eO 7 [.ref (g 115), .ref (g 116), .int 0, .int 0]), (g 115, eI G 50 (fun _ => 0)), (g 116, eI G 50 (fun _ => 0)), (g 117, eO 7 [.ref (g 118), .ref (g 119), .int 0, .int 0]), (g 118, eI G 50 (fun _ => 0)), (g 119, eI G 50 (fun _ => 0)), (g 120, eO 7 [.ref (g 121), .ref (g 122), .int 0, .int 0]), (g 121, eI G 50 (fun _ => 0)), (g 122, eI G 50 (fun _ => 0)), (g 123, eO 7 [.ref (g 124), .ref (g 125), .int 0, .int 0]), (g 124, eI G 50 (fun _ => 0)), (g 125, eI G 50 (fun _ => 0)), (g 126, eO 7 [.ref (g 127), .ref (g 128), .int 0, .int 0]), (g 127, eI G 50 (fun _ => 0)), (g 128, eI G 50 (fun _ => 0)), (g 129, eO 7 [.ref (g 130), .ref (g 131), .int 0, .int 0]), (g 130, eI G 50 (fun _ => 0)), (g 131, eI G 50 (fun _ => 0)), (g 132, eO 7 [.ref (g 133), .ref (g 134), .int 0, .int 0]), (g 133, eI G 50 (fun _ => 0)), (g 134, eI G 50 (fun _ => 0)), (g 135, eO 7 [.ref (g 136), .ref (g 137), .int 0, .int 0]), (g 136, eI G 50 (fun _ => 0)), (g 137, eI G 50 (fun _ => 0)), (g 138, eO 7 [.ref (g 139), .ref (g 140), .int 0, .int 0]), (g 139, eI G 50 (fun _ => 0)), (g 140, eI G 50 (fun _ => 0)), (g 141, eO 7 [.ref (g 142), .ref (g 143), .int 0, .int 0]), (g 142, eI G 50 (fun _ => 0)), (g 143, eI G 50 (fun _ => 0)), (g 144, eO 7 [.ref (g 145), .ref (g 146), .int 0, .int 0]), (g 145, eI G 50 (fun _ => 0)), (g 146, eI G 50 (fun _ => 0)), (g 147, eO 7 [.ref (g 148), .ref (g 149), .int 0, .int 0]), (g 148, eI G 50 (fun _ => 0)), (g 149, eI G 50 (fun _ => 0)), (g 150, eO 7 [.ref (g 151), .ref (g 152), .int 0, .int 0]), (g 151, eI G 50 (fun _ => 0)), (g 152, eI G 50 (fun _ => 0)), (g 153, eO 7 [.ref (g 154), .ref (g 155), .int 0, .int 0]), (g 154, eI G 50 (fun _ => 0)), (g 155, eI G 50 (fun _ => 0)), (g 156, eO 7 [.ref (g 157), .ref (g 158), .int 0, .int 0]), (g 157, eI G 50 (fun _ => 0)), (g 158, eI G 50 (fun _ => 0)), (g 159, eO 7 [.ref (g 160), .ref (g 161), .int 0, .int 0]), (g 160, eI G 50 (fun _ => 0)), (g 161, eI G 50 (fun _ => 0)), (g 162, eO 7 [.ref (g 163), .ref (g 164), .int 0, .int 0]), (g 163, eI G 50 (fun _ => 0)), (g 164, eI G 50 (fun _ => 0)), (g 165, eO 7 [.ref (g 166), .ref (g 167), .int 0, .int 0]), (g 166, eI G 50 (fun _ => 0)), (g 167, eI G 50 (fun _ => 0)), (g 168, eO 7 [.ref (g 169), .ref (g 170), .int 0, .int 0]), (g 169, eI G 50 (fun _ => 0)), (g 170, eI G 50 (fun _ => 0)), (g 171, eO 7 [.ref (g 172), .ref (g 173), .int 0, .int 0]), (g 172, eI G 50 (fun _ => 0)), (g 173, eI G 50 (fun _ => 0)), (g 174, eO 6 [.ref (g 175), .ref (g 176)]), (g 175, eA G 5 4 (aL [g 177, g 180, g 183, g 186])), (g 177, eO 7 [.ref (g 178), .ref (g 179), .int 0, .int 0]), (g 178, eI G 50 (fun _ => 0)), (g 179, eI G 50 (fun _ => 0)), (g 180, eO 7 [.ref (g 181), .ref (g 182), .int 0, .int 0]), (g 181, eI G 50 (fun _ => 0)), (g 182, eI G 50 (fun _ => 0)), (g 183, eO 7 [.ref (g 184), .ref (g 185), .int 0, .int 0]), (g 184, eI G 50 (fun _ => 0)), (g 185, eI G 50 (fun _ => 0)), (g 186, eO 7 [.ref (g 187), .ref (g 188), .int 0, .int 0]), (g 187, eI G 50 (fun _ => 0)), (g 188, eI G 50 (fun _ => 0)), (g 2, eA G 3 2 (aL [g 200, g 300])), (g 3, eZ G 2 (fun _ => 0)), (g 4, eO 4 [.ref (g 7), .int 0, .int 0, .int 0, .int 0]), (g 5, eO 2 [.long 0, .long 1]), (g 6, eO 8 [.ref (g 8), .ref (g 9), .ref (g 10), .ref (g 11), .int 0, .int 0]), (g 9, eI G 6 (fun _ => 0)), (g 200, eO 0 [.ref (g 201), .ref (g 203), .ref (g 205), .ref (g 207), .ref (g 209), .ref (g 211), .ref (g 274), .int 5, .int 20]), (g 201, eO 5 [.int 30, .int 4, .ref (g 202), .int 0]), (g 202, eI G 120 (fun _ => 0)), (g 203, eO 5 [.int 40, .int 3, .ref (g 204), .int 0]), (g 204, eI G 120 (fun _ => 0)), (g 205, eO 5 [.int 4, .int 3, .ref (g 206), .int 0]), (g 206, eI G 12 (fun _ => 0)), (g 207, eO 5 [.int 20, .int 3, .ref (g 208), .int 0]), (g 208, eI G 60 (fun _ => 0)), (g 209, eO 5 [.int 10, .int 70, .ref (g 210), .int 0]), (g 210, eI G 700 (fun _ => 0)), (g 211, eO 6 [.ref (g 212), .ref (g 213)]), (g 212, eA G 5 20 (aL [g 214, g 217, g 220, g 223, g 226, g 229, g 232, g 235, g 238, g 241, g 244, g 247, g 250, g 253, g 256, g 259, g 262, g 265, g 268, g 271])), (g 214, eO 7 [.ref (g 215), .ref (g 216), .int 0, .int 0]), (g 215, eI G 50 (fun _ => 0)), (g 216, eI G 50 (fun _ => 0)), (g 217, eO 7 [.ref (g 218), .ref (g 219), .int 0, .int 0]), (g 218, eI G 50 (fun _ => 0)), (g 219, eI G 50 (fun _ => 0)), (g 220, eO 7 [.ref (g 221), .ref (g 222), .int 0, .int 0]), (g 221, eI G 50 (fun _ => 0)), (g 222, eI G 50 (fun _ => 0)), (g 223, eO 7 [.ref (g 224), .ref (g 225), .int 0, .int 0]), (g 224, eI G 50 (fun _ => 0)), (g 225, eI G 50 (fun _ => 0)), (g 226, eO 7 [.ref (g 227), .ref (g 228), .int 0, .int 0]), (g 227, eI G 50 (fun _ => 0)), (g 228, eI G 50 (fun _ => 0)), (g 229, eO 7 [.ref (g 230), .ref (g 231), .int 0, .int 0]), (g 230, eI G 50 (fun _ => 0)), (g 231, eI G 50 (fun _ => 0)), (g 232, eO 7 [.ref (g 233), .ref (g 234), .int 0, .int 0]), (g 233, eI G 50 (fun _ => 0)), (g 234, eI G 50 (fun _ => 0)), (g 235, eO 7 [.ref (g 236), .ref (g 237), .int 0, .int 0]), (g 236, eI G 50 (fun _ => 0)), (g 237, eI G 50 (fun _ => 0)), (g 238, eO 7 [.ref (g 239), .ref (g 240), .int 0, .int 0]), (g 239, eI G 50 (fun _ => 0)), (g 240, eI G 50 (fun _ => 0)), (g 241, eO 7 [.ref (g 242), .ref (g 243), .int 0, .int 0]), (g 242, eI G 50 (fun _ => 0)), (g 243, eI G 50 (fun _ => 0)), (g 244, eO 7 [.ref (g 245), .ref (g 246), .int 0, .int 0]), (g 245, eI G 50 (fun _ => 0)), (g 246, eI G 50 (fun _ => 0)), (g 247, eO 7 [.ref (g 248), .ref (g 249), .int 0, .int 0]), (g 248, eI G 50 (fun _ => 0)), (g 249, eI G 50 (fun _ => 0)), (g 250, eO 7 [.ref (g 251), .ref (g 252), .int 0, .int 0]), (g 251, eI G 50 (fun _ => 0)), (g 252, eI G 50 (fun _ => 0)), (g 253, eO 7 [.ref (g 254), .ref (g 255), .int 0, .int 0]), (g 254, eI G 50 (fun _ => 0)), (g 255, eI G 50 (fun _ => 0)), (g 256, eO 7 [.ref (g 257), .ref (g 258), .int 0, .int 0]), (g 257, eI G 50 (fun _ => 0)), (g 258, eI G 50 (fun _ => 0)), (g 259, eO 7 [.ref (g 260), .ref (g 261), .int 0, .int 0]), (g 260, eI G 50 (fun _ => 0)), (g 261, eI G 50 (fun _ => 0)), (g 262, eO 7 [.ref (g 263), .ref (g 264), .int 0, .int 0]), (g 263, eI G 50 (fun _ => 0)), (g 264, eI G 50 (fun _ => 0)), (g 265, eO 7 [.ref (g 266), .ref (g 267), .int 0, .int 0]), (g 266, eI G 50 (fun _ => 0)), (g 267, eI G 50 (fun _ => 0)), (g 268, eO 7 [.ref (g 269), .ref (g 270), .int 0, .int 0]), (g 269, eI G 50 (fun _ => 0)), (g 270, eI G 50 (fun _ => 0)), (g 271, eO 7 [.ref (g 272), .ref (g 273), .int 0, .int 0]), (g 272, eI G 50 (fun _ => 0)), (g 273, eI G 50 (fun _ => 0)), (g 274, eO 6 [.ref (g 275), .ref (g 276)]), (g 275, eA G 5 4 (aL [g 277, g 280, g 283, g 286])), (g 277, eO 7 [.ref (g 278), .ref (g 279), .int 0, .int 0]), (g 278, eI G 50 (fun _ => 0)), (g 279, eI G 50 (fun _ => 0)), (g 280, eO 7 [.ref (g 281), .ref (g 282), .int 0, .int 0]), (g 281, eI G 50 (fun _ => 0)), (g 282, eI G 50 (fun _ => 0)), (g 283, eO 7 [.ref (g 284), .ref (g 285), .int 0, .int 0]), (g 284, eI G 50 (fun _ => 0)), (g 285, eI G 50 (fun _ => 0)), (g 286, eO 7 [.ref (g 287), .ref (g 288), .int 0, .int 0]), (g 287, eI G 50 (fun _ => 0)), (g 288, eI G 50 (fun _ => 0)), (g 300, eO 0 [.ref (g 301), .ref (g 303), .ref (g 305), .ref (g 307), .ref (g 309), .ref (g 311), .ref (g 374), .int 5, .int 20]), (g 301, eO 5 [.int 30, .int 4, .ref (g 302), .int 0]), (g 302, eI G 120 (fun _ => 0)), (g 303, eO 5 [.int 40, .int 3, .ref (g 304), .int 0]), (g 304, eI G 120 (fun _ => 0)), (g 305, eO 5 [.int 4, .int 3, .ref (g 306), .int 0]), (g 306, eI G 12 (fun _ => 0)), (g 307, eO 5 [.int 20, .int 3, .ref (g 308), .int 0]), (g 308, eI G 60 (fun _ => 0)), (g 309, eO 5 [.int 10, .int 70, .ref (g 310), .int 0]), (g 310, eI G 700 (fun _ => 0)), (g 311, eO 6 [.ref (g 312), .ref (g 313)]), (g 312, eA G 5 20 (aL [g 314, g 317, g 320, g 323, g 326, g 329, g 332, g 335, g 338, g 341, g 344, g 347, g 350, g 353, g 356, g 359, g 362, g 365, g 368, g 371])), (g 314, eO 7 [.ref (g 315), .ref (g 316), .int 0, .int 0]), (g 315, eI G 50 (fun _ => 0)), (g 316, eI G 50 (fun _ => 0)), (g 317, eO 7 [.ref (g 318), .ref (g 319), .int 0, .int 0]), (g 318, eI G 50 (fun _ => 0)), (g 319, eI G 50 (fun _ => 0)), (g 320, eO 7 [.ref (g 321), .ref (g 322), .int 0, .int 0]), (g 321, eI G 50 (fun _ => 0)), (g 322, eI G 50 (fun _ => 0)), (g 323, eO 7 [.ref (g 324), .ref (g 325), .int 0, .int 0]), (g 324, eI G 50 (fun _ => 0)), (g 325, eI G 50 (fun _ => 0)), (g 326, eO 7 [.ref (g 327), .ref (g 328), .int 0, .int 0]), (g 327, eI G 50 (fun _ => 0)), (g 328, eI G 50 (fun _ => 0)), (g 329, eO 7 [.ref (g 330), .ref (g 331), .int 0, .int 0]), (g 330, eI G 50 (fun _ => 0)), (g 331, eI G 50 (fun _ => 0)), (g 332, eO 7 [.ref (g 333), .ref (g 334), .int 0, .int 0]), (g 333, eI G 50 (fun _ => 0)), (g 334, eI G 50 (fun _ => 0)), (g 335, eO 7 [.ref (g 336), .ref (g 337), .int 0, .int 0]), (g 336, eI G 50 (fun _ => 0)), (g 337, eI G 50 (fun _ => 0)), (g 338, eO 7 [.ref (g 339), .ref (g 340), .int 0, .int 0]), (g 339, eI G 50 (fun _ => 0)), (g 340, eI G 50 (fun _ => 0)), (g 341, eO 7 [.ref (g 342), .ref (g 343), .int 0, .int 0]), (g 342, eI G 50 (fun _ => 0)), (g 343, eI G 50 (fun _ => 0)), (g 344, eO 7 [.ref (g 345), .ref (g 346), .int 0, .int 0]), (g 345, eI G 50 (fun _ => 0)), (g 346, eI G 50 (fun _ => 0)), (g 347, eO 7 [.ref (g 348), .ref (g 349), .int 0, .int 0]), (g 348, eI G 50 (fun _ => 0)), (g 349, eI G 50 (fun _ => 0)), (g 350, eO 7 [.ref (g 351), .ref (g 352), .int 0, .int 0]), (g 351, eI G 50 (fun _ => 0)), (g 352, eI G 50 (fun _ => 0)), (g 353, eO 7 [.ref (g 354), .ref (g 355), .int 0, .int 0]), (g 354, eI G 50 (fun _ => 0)), (g 355, eI G 50 (fun _ => 0)), (g 356, eO 7 [.ref (g 357), .ref (g 358), .int 0, .int 0]), (g 357, eI G 50 (fun _ => 0)), (g 358, eI G 50 (fun _ => 0)), (g 359, eO 7 [.ref (g 360), .ref (g 361), .int 0, .int 0]), (g 360, eI G 50 (fun _ => 0)), (g 361, eI G 50 (fun _ => 0)), (g 362, eO 7 [.ref (g 363), .ref (g 364), .int 0, .int 0]), (g 363, eI G 50 (fun _ => 0)), (g 364, eI G 50 (fun _ => 0)), (g 365, eO 7 [.ref (g 366), .ref (g 367), .int 0, .int 0]), (g 366, eI G 50 (fun _ => 0)), (g 367, eI G 50 (fun _ => 0)), (g 368, eO 7 [.ref (g 369), .ref (g 370), .int 0, .int 0]), (g 369, eI G 50 (fun _ => 0)), (g 370, eI G 50 (fun _ => 0)), (g 371, eO 7 [.ref (g 372), .ref (g 373), .int 0, .int 0]), (g 372, eI G 50 (fun _ => 0)), (g 373, eI G 50 (fun _ => 0)), (g 374, eO 6 [.ref (g 375), .ref (g 376)]), (g 375, eA G 5 4 (aL [g 377, g 380, g 383, g 386])), (g 377, eO 7 [.ref (g 378), .ref (g 379), .int 0, .int 0]), (g 378, eI G 50 (fun _ => 0)), (g 379, eI G 50 (fun _ => 0)), (g 380, eO 7 [.ref (g 381), .ref (g 382), .int 0, .int 0]), (g 381, eI G 50 (fun _ => 0)), (g 382, eI G 50 (fun _ => 0)), (g 383, eO 7 [.ref (g 384), .ref (g 385), .int 0, .int 0]), (g 384, eI G 50 (fun _ => 0)), (g 385, eI G 50 (fun _ => 0)), (g 386, eO 7 [.ref (g 387), .ref (g 388), .int 0, .int 0]), (g 387, eI G 50 (fun _ => 0)), (g 388, eI G 50 (fun _ => 0)), (mo, eO 10 [.ref (h 0), .ref (h 1), .ref (h 2), .long 0, .long 1, .int 0, .ref (h 3), .ref (h 4), .int 0, .ref (h 5), .ref (h 6), .int 0, .int 0, .int 0, .int 0, .ref (h 7), .ref (h 8), .ref (h 9), .ref (h 10), .ref (h 11), .ref (h 12), .ref (h 13), .ref (h 14), .ref (h 15), .ref (h 16)]), (h 0, eI G 2246 st0), (h 1, eI G 4492 (fun _ => 0)), (h 2, eZ G 2 (fun _ => 0))]
theorem nw_of {w : Cond} (hw : nwOk w = true) {A : Array Value} {U : State} (h : w.before A U = true) : va_Nw w U := by
  cases w <;> first | exact va_Nw.of rfl h | (simp [nwOk] at hw)
theorem mem_t1 {w : Cond} (h : w ∈ tables_1_1) : w ∈ lw_tbl := List.mem_append_right _ (List.mem_append_left _ h)
theorem mem_t2 {w : Cond} (h : w ∈ tables_1_2) : w ∈ lw_tbl := List.mem_append_right _ (List.mem_append_right _ (List.mem_append_left _ h))
theorem mem_t3 {w : Cond} (h : w ∈ tables_1_3) : w ∈ lw_tbl := List.mem_append_right _ (List.mem_append_right _ (List.mem_append_right _ (List.mem_append_left _ h)))
theorem mem_t4 {w : Cond} (h : w ∈ tables_1_4) : w ∈ lw_tbl := List.mem_append_right _ (List.mem_append_right _ (List.mem_append_right _ (List.mem_append_right _ (List.mem_append_left _ h))))
theorem mem_t5 {w : Cond} (h : w ∈ tables_1_5) : w ∈ lw_tbl := List.mem_append_right _ (List.mem_append_right _ (List.mem_append_right _ (List.mem_append_right _ (List.mem_append_right _ h))))
set_option maxRecDepth 20000 in
theorem nwi_0 : (Cond.fieldLinkNest RX10 57 RX0 "people" "LSwornLists$Rows;" RX10) ∈ lw_tbl := mem_t1 (List.mem_of_getElem? (i := 90) rfl)
set_option maxRecDepth 20000 in
theorem nwi_1 : (Cond.fieldLinkNest RX1 110 RX0 "people" "LSwornLists$Rows;" RX10) ∈ lw_tbl := mem_t1 (List.mem_of_getElem? (i := 91) rfl)
set_option maxRecDepth 20000 in
theorem nwi_2 : (Cond.fieldLinkNest RX10 82 RX0 "facts" "LSwornLists$Rows;" RX10) ∈ lw_tbl := mem_t1 (List.mem_of_getElem? (i := 93) rfl)
set_option maxRecDepth 20000 in
theorem nwi_3 : (Cond.fieldLinkNest RX10 88 RX0 "rolls" "LSwornLists$Rows;" RX10) ∈ lw_tbl := mem_t1 (List.mem_of_getElem? (i := 95) rfl)
set_option maxRecDepth 20000 in
theorem nwi_4 : (Cond.fieldLinkNest RX10 134 RX0 "acts" "LSwornLists$Rows;" RX10) ∈ lw_tbl := mem_t1 (List.mem_of_getElem? (i := 97) rfl)
set_option maxRecDepth 20000 in
theorem nwi_5 : (Cond.fieldLinkNest RX9 53 RX0 "trials" "LSwornLists$Rows;" RX10) ∈ lw_tbl := mem_t1 (List.mem_of_getElem? (i := 99) rfl)
set_option maxRecDepth 20000 in
theorem nwi_6 : (Cond.fieldLinkNest RX1 43 RX0 "trials" "LSwornLists$Rows;" RX10) ∈ lw_tbl := mem_t1 (List.mem_of_getElem? (i := 100) rfl)
set_option maxRecDepth 20000 in
theorem nwi_7 : (Cond.fieldLinkNest RX10 162 RX0 "trials" "LSwornLists$Rows;" RX10) ∈ lw_tbl := mem_t1 (List.mem_of_getElem? (i := 101) rfl)
set_option maxRecDepth 20000 in
theorem nwi_8 : (Cond.fieldLinkNest RX10 137 RX0 "laws" "LSwornLists$Shelf;" RX10) ∈ lw_tbl := mem_t1 (List.mem_of_getElem? (i := 103) rfl)
set_option maxRecDepth 20000 in
theorem nwi_9 : (Cond.fieldLinkNest RX10 98 RX0 "texts" "LSwornLists$Shelf;" RX10) ∈ lw_tbl := mem_t1 (List.mem_of_getElem? (i := 105) rfl)
set_option maxRecDepth 20000 in
theorem nwi_10 : (Cond.fieldLinkNest RX10 201 RX0 "pay" "I" RX10) ∈ lw_tbl := mem_t1 (List.mem_of_getElem? (i := 107) rfl)
set_option maxRecDepth 20000 in
theorem nwi_11 : (Cond.fieldLinkNest RX10 204 RX0 "fine" "I" RX10) ∈ lw_tbl := mem_t1 (List.mem_of_getElem? (i := 109) rfl)
set_option maxRecDepth 20000 in
theorem nwi_12 : (Cond.fieldLinkNest RX1 96 RX3 "inBox" "I" RX10) ∈ lw_tbl := mem_t1 (List.mem_of_getElem? (i := 140) rfl)
set_option maxRecDepth 20000 in
theorem nwi_13 : (Cond.fieldLinkNest RX10 176 RX3 "inBox" "I" RX10) ∈ lw_tbl := mem_t1 (List.mem_of_getElem? (i := 141) rfl)
set_option maxRecDepth 20000 in
theorem nwi_14 : (Cond.fieldLinkNest RX10 208 RX3 "missing" "I" RX10) ∈ lw_tbl := mem_t1 (List.mem_of_getElem? (i := 144) rfl)
set_option maxRecDepth 20000 in
theorem nwi_15 : (Cond.fieldLinkNest RX1 107 RX3 "sworn" "I" RX10) ∈ lw_tbl := mem_t1 (List.mem_of_getElem? (i := 147) rfl)
set_option maxRecDepth 20000 in
theorem nwi_16 : (Cond.fieldLinkNest RX10 188 RX3 "sworn" "I" RX10) ∈ lw_tbl := mem_t1 (List.mem_of_getElem? (i := 149) rfl)
set_option maxRecDepth 20000 in
theorem nwi_17 : (Cond.fieldLinkNest RX10 16 RX1 "book" "LSwornLists$Book;" RX10) ∈ lw_tbl := mem_t1 (List.mem_of_getElem? (i := 170) rfl)
set_option maxRecDepth 20000 in
theorem nwi_18 : (Cond.fieldLinkNest RX10 236 RX1 "spare" "LSwornLists$Hearing;" RX10) ∈ lw_tbl := mem_t1 (List.mem_of_getElem? (i := 173) rfl)
set_option maxRecDepth 20000 in
theorem nwi_19 : (Cond.fieldLinkNest RX10 227 RX2 "above" "J" RX10) ∈ lw_tbl := mem_t1 (List.mem_of_getElem? (i := 220) rfl)
set_option maxRecDepth 20000 in
theorem nwi_20 : (Cond.fieldLinkNest RX10 231 RX2 "below" "J" RX10) ∈ lw_tbl := mem_t1 (List.mem_of_getElem? (i := 222) rfl)
set_option maxRecDepth 20000 in
theorem nwi_21 : (Cond.fieldLinkNest RX10 251 RX9 "leastSum" "I" RX10) ∈ lw_tbl := mem_t2 (List.mem_of_getElem? (i := 0) rfl)
set_option maxRecDepth 20000 in
theorem nwi_22 : (Cond.methodLinkNest RX1 11 yX0_init RX10) ∈ lw_tbl := mem_t1 (List.mem_of_getElem? (i := 32) rfl)
set_option maxRecDepth 20000 in
theorem nwi_23 : (Cond.methodLinkNest RX6 9 yX8_init RX10) ∈ lw_tbl := mem_t1 (List.mem_of_getElem? (i := 64) rfl)
set_option maxRecDepth 20000 in
theorem nwi_24 : (Cond.methodLinkNest RX1 24 yX3_init RX10) ∈ lw_tbl := mem_t1 (List.mem_of_getElem? (i := 132) rfl)
set_option maxRecDepth 20000 in
theorem nwi_25 : (Cond.methodLinkNest RX10 33 yX4_init RX10) ∈ lw_tbl := mem_t1 (List.mem_of_getElem? (i := 192) rfl)
set_option maxRecDepth 20000 in
theorem nwi_26 : (Cond.methodLinkNest RX10 40 yX2_init RX10) ∈ lw_tbl := mem_t1 (List.mem_of_getElem? (i := 215) rfl)
set_option maxRecDepth 20000 in
theorem nwi_27 : (Cond.methodLinkNest RX10 47 yX9_init RX10) ∈ lw_tbl := mem_t1 (List.mem_of_getElem? (i := 230) rfl)
set_option maxRecDepth 20000 in
theorem nwi_28 : (Cond.methodLinkNest RX10 52 yX0_init RX10) ∈ lw_tbl := mem_t2 (List.mem_of_getElem? (i := 14) rfl)
set_option maxRecDepth 20000 in
theorem nwi_29 : (Cond.methodLinkNest RX0 62 yX10_lowBits RX10) ∈ lw_tbl := mem_t2 (List.mem_of_getElem? (i := 82) rfl)
set_option maxRecDepth 20000 in
theorem nwi_30 : (Cond.methodLinkNest RX4 87 yX10_hasBit RX10) ∈ lw_tbl := mem_t2 (List.mem_of_getElem? (i := 180) rfl)
set_option maxRecDepth 20000 in
theorem nwi_31 : (Cond.methodLinkNest RX1 113 yX10_hasBit RX10) ∈ lw_tbl := mem_t2 (List.mem_of_getElem? (i := 233) rfl)
set_option maxRecDepth 20000 in
theorem nwi_32 : (Cond.methodLinkNest RX1 145 yX10_yearOf RX10) ∈ lw_tbl := mem_t3 (List.mem_of_getElem? (i := 11) rfl)
set_option maxRecDepth 20000 in
theorem nwi_33 : (Cond.methodLinkNest RX3 44 yX10_hasBit RX10) ∈ lw_tbl := mem_t3 (List.mem_of_getElem? (i := 55) rfl)
set_option maxRecDepth 20000 in
theorem nwi_34 : (Cond.methodLinkNest RX3 66 yX10_likesColumn RX10) ∈ lw_tbl := mem_t3 (List.mem_of_getElem? (i := 65) rfl)
set_option maxRecDepth 20000 in
theorem nwi_35 : (Cond.methodLinkNest RX9 64 yX10_hasBit RX10) ∈ lw_tbl := mem_t3 (List.mem_of_getElem? (i := 218) rfl)
theorem nwA_in : ∀ w ∈ nwA, w ∈ lw_tbl := List.forall_mem_cons.mpr ⟨nwi_0, List.forall_mem_cons.mpr ⟨nwi_1, List.forall_mem_cons.mpr ⟨nwi_2, List.forall_mem_cons.mpr ⟨nwi_3, List.forall_mem_cons.mpr ⟨nwi_4, List.forall_mem_cons.mpr ⟨nwi_5, List.forall_mem_cons.mpr ⟨nwi_6, List.forall_mem_cons.mpr ⟨nwi_7, List.forall_mem_cons.mpr ⟨nwi_8, List.forall_mem_cons.mpr ⟨nwi_9, List.forall_mem_cons.mpr ⟨nwi_10, List.forall_mem_cons.mpr ⟨nwi_11, List.forall_mem_cons.mpr ⟨nwi_12, List.forall_mem_cons.mpr ⟨nwi_13, List.forall_mem_cons.mpr ⟨nwi_14, List.forall_mem_cons.mpr ⟨nwi_15, List.forall_mem_cons.mpr ⟨nwi_16, List.forall_mem_cons.mpr ⟨nwi_17, List.forall_mem_cons.mpr ⟨nwi_18, List.forall_mem_cons.mpr ⟨nwi_19, List.forall_mem_cons.mpr ⟨nwi_20, List.forall_mem_cons.mpr ⟨nwi_21, List.forall_mem_cons.mpr ⟨nwi_22, List.forall_mem_cons.mpr ⟨nwi_23, List.forall_mem_cons.mpr ⟨nwi_24, List.forall_mem_cons.mpr ⟨nwi_25, List.forall_mem_cons.mpr ⟨nwi_26, List.forall_mem_cons.mpr ⟨nwi_27, List.forall_mem_cons.mpr ⟨nwi_28, List.forall_mem_cons.mpr ⟨nwi_29, List.forall_mem_cons.mpr ⟨nwi_30, List.forall_mem_cons.mpr ⟨nwi_31, List.forall_mem_cons.mpr ⟨nwi_32, List.forall_mem_cons.mpr ⟨nwi_33, List.forall_mem_cons.mpr ⟨nwi_34, List.forall_mem_cons.mpr ⟨nwi_35, fun _ h => absurd h List.not_mem_nil⟩⟩⟩⟩⟩⟩⟩⟩⟩⟩⟩⟩⟩⟩⟩⟩⟩⟩⟩⟩⟩⟩⟩⟩⟩⟩⟩⟩⟩⟩⟩⟩⟩⟩⟩⟩
theorem kG_start {args : Array Value} {s : State} (hts : ∀ w ∈ lw_tbl, w.before args s = true) : ∃ G : gW, kG G s := by
  have ht : ∀ w ∈ TT, w.before args s = true := fun w h => hts w (List.mem_filter.mp h).1
  obtain ⟨c0, i0, k0⟩ := u_known (C := RX0) (T := TX0) (N := 9) (n := 9) ht inlX0 (ht (.instantiable RX0 9) w_33)
  obtain ⟨c1, i1, k1⟩ := u_known (C := RX1) (T := TX1) (N := 5) (n := 5) ht inlX1 (ht (.instantiable RX1 5) w_13)
  obtain ⟨c2, i2, k2⟩ := u_known (C := RX2) (T := TX2) (N := 2) (n := 2) ht inlX2 (ht (.instantiable RX2 2) w_26)
  obtain ⟨c3, i3, k3⟩ := u_known (C := RX3) (T := TX3) (N := 9) (n := 9) ht inlX3 (ht (.instantiable RX3 9) w_43)
  obtain ⟨c4, i4, k4⟩ := u_known (C := RX4) (T := TX4) (N := 5) (n := 5) ht inlX4 (ht (.instantiable RX4 5) w_22)
  obtain ⟨c5, i5, k5⟩ := u_known (C := RX5) (T := TX5) (N := 4) (n := 4) ht inlX5 (ht (.instantiable RX5 4) w_52)
  obtain ⟨c6, i6, k6⟩ := u_known (C := RX6) (T := TX6) (N := 2) (n := 2) ht inlX6 (ht (.instantiable RX6 2) w_60)
  obtain ⟨c7, i7, k7⟩ := u_known (C := RX8) (T := TX8) (N := 4) (n := 4) ht inlX8 (ht (.instantiable RX8 4) w_79)
  obtain ⟨c8, i8, k8⟩ := u_known (C := RX9) (T := TX9) (N := 6) (n := 6) ht inlX9 (ht (.instantiable RX9 6) w_30)
  obtain ⟨c9, i9, k9⟩ := u_known (C := RX10) (T := TX10) (N := 7) (n := 7) ht inlX10 (ht (.instantiable RX10 7) w_1)
  obtain ⟨c10, i10, k10⟩ := u_known (C := RX11) (T := TX11) (N := 25) (n := 25) ht inlX11 (ht (.instantiable RX11 25) w_4)
  obtain ⟨aI, qI, mI, f1I, f2I, f3I⟩ := Cond.arrayClass_spec (ht (.arrayClass .int) w_72)
  obtain ⟨aJ, qJ, mJ, f1J, f2J, f3J⟩ := Cond.arrayClass_spec (ht (.arrayClass .long) w_46)
  obtain ⟨aZ, qZ, mZ, f1Z, f2Z, f3Z⟩ := Cond.arrayClass_spec (ht (.arrayClass .boolean) w_19)
  have oB := hts (.arrayOver (.object "SwornLists$Book")) (mem_t1 (List.mem_of_getElem? (i := 189) rfl))
  obtain ⟨mB, aB, qB, g1B, -, g3B, g4B, g5B⟩ := Cond.arrayOver_spec oB
  have oH := hts (.arrayOver (.object "SwornLists$Hearing")) (mem_t1 (List.mem_of_getElem? (i := 130) rfl))
  obtain ⟨mH, aH, qH, g1H, -, g3H, g4H, g5H⟩ := Cond.arrayOver_spec oH
  have oT := hts (.arrayOver (.object "SwornLists$Text")) (mem_t1 (List.mem_of_getElem? (i := 81) rfl))
  obtain ⟨mT, aT, qT, g1T, -, g3T, g4T, g5T⟩ := Cond.arrayOver_spec oT
  refine ⟨(((fun k => match k with | 0 => c0 | 1 => c1 | 2 => c2 | 3 => c3 | 4 => c4 | 5 => c5 | 6 => c6 | 7 => c7 | 8 => c8 | 9 => c9 | _ => c10), (fun k => match k with | 0 => i0 | 1 => i1 | 2 => i2 | 3 => i3 | 4 => i4 | 5 => i5 | 6 => i6 | 7 => i7 | 8 => i8 | 9 => i9 | _ => i10)), (fun k => match k with | 0 => aI | 1 => aJ | 2 => aZ | 3 => aB | 4 => aH | _ => aT)), ⟨?_, ?_⟩, fun w hw => nw_of (nwA_ok w hw) (hts w (nwA_in w hw)), va_AO.of oB, va_AO.of oH, va_AO.of oT⟩
  · intro k q hq
    match k, hq with
    | 0, hq => cases hq; exact k0
    | 1, hq => cases hq; exact k1
    | 2, hq => cases hq; exact k2
    | 3, hq => cases hq; exact k3
    | 4, hq => cases hq; exact k4
    | 5, hq => cases hq; exact k5
    | 6, hq => cases hq; exact k6
    | 7, hq => cases hq; exact k7
    | 8, hq => cases hq; exact k8
    | 9, hq => cases hq; exact k9
    | 10, hq => cases hq; exact k10
    | k + 11, hq => simp [vwCl] at hq
  · intro k q hq
    match k, hq with
    | 0, hq => cases hq; exact ⟨fun n z => ⟨fun k h => (by cases h), qI, f2I, mI, f3I⟩, f1I⟩
    | 1, hq => cases hq; exact ⟨fun n z => ⟨fun k h => (by cases h), qJ, f2J, mJ, f3J⟩, f1J⟩
    | 2, hq => cases hq; exact ⟨fun n z => ⟨fun k h => (by cases h), qZ, f2Z, mZ, f3Z⟩, f1Z⟩
    | 3, hq => cases hq; exact ⟨fun n z => ⟨fun k h => (by cases h), qB, g3B, mB, g4B⟩, qB, mB, g3B, g4B, g1B, g5B⟩
    | 4, hq => cases hq; exact ⟨fun n z => ⟨fun k h => (by cases h), qH, g3H, mH, g4H⟩, qH, mH, g3H, g4H, g1H, g5H⟩
    | 5, hq => cases hq; exact ⟨fun n z => ⟨fun k h => (by cases h), qT, g3T, mT, g4T⟩, qT, mT, g3T, g4T, g1T, g5T⟩
    | k + 6, hq => simp at hq
theorem pick4 (i : Int32) : i = 0 ∨ i = 1 ∨ i = 2 ∨ i = 3 ∨ ¬ inB 0 i 3 = true := by
  by_cases h : inB 0 i 3 = true
  · rcases in3 h with h | h | h | h
    · exact Or.inl h
    · exact Or.inr (Or.inl h)
    · exact Or.inr (Or.inr (Or.inl h))
    · exact Or.inr (Or.inr (Or.inr (Or.inl h)))
  · exact Or.inr (Or.inr (Or.inr (Or.inr h)))
theorem pick2 (i : Int32) : i = 0 ∨ i = 1 ∨ ¬ inB 0 i 1 = true := by
  by_cases h : inB 0 i 1 = true
  · rcases inB_01.mp h with h | h
    · exact Or.inl h
    · exact Or.inr (Or.inl h)
  · exact Or.inr (Or.inr h)
theorem ok_X10_person : okV yX10_person cX10_person 6 (some .int) 4 := ⟨⟨w_133, w_2, ⟨by decide +kernel, by decide +kernel, by decide +kernel⟩⟩, trivial, w_131, w_132⟩
theorem ok_X11_person : okV yX11_person cX11_person 6 (some .int) 4 := ⟨⟨w_158, w_5, ⟨by decide +kernel, by decide +kernel, by decide +kernel⟩⟩, trivial, w_156, w_157⟩
theorem ok_X10_kin : okV yX10_kin cX10_kin 5 (some .int) 3 := ⟨⟨w_173, w_2, ⟨by decide +kernel, by decide +kernel, by decide +kernel⟩⟩, trivial, w_171, w_172⟩
theorem ok_X11_kin : okV yX11_kin cX11_kin 5 (some .int) 3 := ⟨⟨w_184, w_5, ⟨by decide +kernel, by decide +kernel, by decide +kernel⟩⟩, trivial, w_182, w_183⟩
theorem ok_X10_roll : okV yX10_roll cX10_roll 5 (some .int) 3 := ⟨⟨w_197, w_2, ⟨by decide +kernel, by decide +kernel, by decide +kernel⟩⟩, trivial, w_195, w_196⟩
theorem ok_X11_roll : okV yX11_roll cX11_roll 5 (some .int) 3 := ⟨⟨w_211, w_5, ⟨by decide +kernel, by decide +kernel, by decide +kernel⟩⟩, trivial, w_209, w_210⟩
theorem ok_X10_rollOf : okV yX10_rollOf cX10_rollOf 2 (some .int) 1 := ⟨⟨w_220, w_2, ⟨by decide +kernel, by decide +kernel, by decide +kernel⟩⟩, trivial, w_218, w_219⟩
theorem ok_X11_rollOf : okV yX11_rollOf cX11_rollOf 2 (some .int) 1 := ⟨⟨w_233, w_5, ⟨by decide +kernel, by decide +kernel, by decide +kernel⟩⟩, trivial, w_231, w_232⟩
theorem ok_X10_write : okV yX10_write cX10_write 3 (some .int) 2 := ⟨⟨w_241, w_2, ⟨by decide +kernel, by decide +kernel, by decide +kernel⟩⟩, trivial, w_239, w_240⟩
theorem ok_X11_write : okV yX11_write cX11_write 4 (some .int) 2 := ⟨⟨w_257, w_5, ⟨by decide +kernel, by decide +kernel, by decide +kernel⟩⟩, trivial, w_255, w_256⟩
theorem ok_X10_erase : okV yX10_erase cX10_erase 2 (some .int) 1 := ⟨⟨w_265, w_2, ⟨by decide +kernel, by decide +kernel, by decide +kernel⟩⟩, trivial, w_263, w_264⟩
theorem ok_X11_erase : okV yX11_erase cX11_erase 3 (some .int) 1 := ⟨⟨w_273, w_5, ⟨by decide +kernel, by decide +kernel, by decide +kernel⟩⟩, trivial, w_271, w_272⟩
theorem ok_X10_fault : okV yX10_fault cX10_fault 2 (some .int) 1 := ⟨⟨w_277, w_2, ⟨by decide +kernel, by decide +kernel, by decide +kernel⟩⟩, trivial, w_275, w_276⟩
theorem ok_X11_fault : okV yX11_fault cX11_fault 2 (some .int) 1 := ⟨⟨w_344, w_5, ⟨by decide +kernel, by decide +kernel, by decide +kernel⟩⟩, trivial, w_342, w_343⟩
theorem ok_X10_tells : okV yX10_tells cX10_tells 5 (some .long) 3 := ⟨⟨w_381, w_2, ⟨by decide +kernel, by decide +kernel, by decide +kernel⟩⟩, trivial, w_379, w_380⟩
theorem ok_X11_tells : okV yX11_tells cX11_tells 4 (some .long) 3 := ⟨⟨w_520, w_5, ⟨by decide +kernel, by decide +kernel, by decide +kernel⟩⟩, trivial, w_518, w_519⟩
theorem ok_X10_act : okV yX10_act cX10_act 6 (some .int) 3 := ⟨⟨w_590, w_2, ⟨by decide +kernel, by decide +kernel, by decide +kernel⟩⟩, trivial, w_588, w_589⟩
theorem ok_X11_act : okV yX11_act cX11_act 6 (some .int) 3 := ⟨⟨w_605, w_5, ⟨by decide +kernel, by decide +kernel, by decide +kernel⟩⟩, trivial, w_603, w_604⟩
theorem ok_X10_strikeOut : okV yX10_strikeOut cX10_strikeOut 3 (some .int) 2 := ⟨⟨w_609, w_2, ⟨by decide +kernel, by decide +kernel, by decide +kernel⟩⟩, trivial, w_607, w_608⟩
theorem ok_X11_strikeOut : okV yX11_strikeOut cX11_strikeOut 4 (some .int) 2 := ⟨⟨w_614, w_5, ⟨by decide +kernel, by decide +kernel, by decide +kernel⟩⟩, trivial, w_612, w_613⟩
theorem ok_X10_force : okV yX10_force cX10_force 3 (some .int) 2 := ⟨⟨w_618, w_2, ⟨by decide +kernel, by decide +kernel, by decide +kernel⟩⟩, trivial, w_616, w_617⟩
theorem ok_X11_force : okV yX11_force cX11_force 3 (some .int) 2 := ⟨⟨w_623, w_5, ⟨by decide +kernel, by decide +kernel, by decide +kernel⟩⟩, trivial, w_621, w_622⟩
theorem ok_X10_may : okV yX10_may cX10_may 4 (some .int) 3 := ⟨⟨w_627, w_2, ⟨by decide +kernel, by decide +kernel, by decide +kernel⟩⟩, trivial, w_625, w_626⟩
theorem ok_X11_may : okV yX11_may cX11_may 4 (some .int) 3 := ⟨⟨w_633, w_5, ⟨by decide +kernel, by decide +kernel, by decide +kernel⟩⟩, trivial, w_631, w_632⟩
theorem ok_X10_trial : okV yX10_trial cX10_trial 12 (some .int) 9 := ⟨⟨w_637, w_2, ⟨by decide +kernel, by decide +kernel, by decide +kernel⟩⟩, trivial, w_635, w_636⟩
theorem ok_X11_trial : okV yX11_trial cX11_trial 13 (some .int) 9 := ⟨⟨w_646, w_5, ⟨by decide +kernel, by decide +kernel, by decide +kernel⟩⟩, trivial, w_644, w_645⟩
theorem ok_X10_away : okV yX10_away cX10_away 5 (some .int) 3 := ⟨⟨w_654, w_2, ⟨by decide +kernel, by decide +kernel, by decide +kernel⟩⟩, trivial, w_652, w_653⟩
theorem ok_X11_away : okV yX11_away cX11_away 5 (some .int) 3 := ⟨⟨w_659, w_5, ⟨by decide +kernel, by decide +kernel, by decide +kernel⟩⟩, trivial, w_657, w_658⟩
theorem ok_X10_like : okV yX10_like cX10_like 7 (some .int) 4 := ⟨⟨w_663, w_2, ⟨by decide +kernel, by decide +kernel, by decide +kernel⟩⟩, trivial, w_661, w_662⟩
theorem ok_X11_like : okV yX11_like cX11_like 7 (some .int) 4 := ⟨⟨w_668, w_5, ⟨by decide +kernel, by decide +kernel, by decide +kernel⟩⟩, trivial, w_666, w_667⟩
theorem ok_X10_box : okV yX10_box cX10_box 2 (some .int) 1 := ⟨⟨w_674, w_2, ⟨by decide +kernel, by decide +kernel, by decide +kernel⟩⟩, trivial, w_672, w_673⟩
theorem ok_X11_box : okV yX11_box cX11_box 2 (some .int) 1 := ⟨⟨w_679, w_5, ⟨by decide +kernel, by decide +kernel, by decide +kernel⟩⟩, trivial, w_677, w_678⟩
theorem ok_X10_drawn : okV yX10_drawn cX10_drawn 3 (some .int) 2 := ⟨⟨w_687, w_2, ⟨by decide +kernel, by decide +kernel, by decide +kernel⟩⟩, trivial, w_685, w_686⟩
theorem ok_X11_drawn : okV yX11_drawn cX11_drawn 3 (some .int) 2 := ⟨⟨w_695, w_5, ⟨by decide +kernel, by decide +kernel, by decide +kernel⟩⟩, trivial, w_693, w_694⟩
theorem ok_X10_slip : okV yX10_slip cX10_slip 3 (some .int) 2 := ⟨⟨w_699, w_2, ⟨by decide +kernel, by decide +kernel, by decide +kernel⟩⟩, trivial, w_697, w_698⟩
theorem ok_X11_slip : okV yX11_slip cX11_slip 3 (some .int) 2 := ⟨⟨w_707, w_5, ⟨by decide +kernel, by decide +kernel, by decide +kernel⟩⟩, trivial, w_705, w_706⟩
theorem ok_X10_jury : okV yX10_jury cX10_jury 2 (some .int) 1 := ⟨⟨w_711, w_2, ⟨by decide +kernel, by decide +kernel, by decide +kernel⟩⟩, trivial, w_709, w_710⟩
theorem ok_X11_jury : okV yX11_jury cX11_jury 2 (some .int) 1 := ⟨⟨w_715, w_5, ⟨by decide +kernel, by decide +kernel, by decide +kernel⟩⟩, trivial, w_713, w_714⟩
theorem ok_X10_about : okV yX10_about cX10_about 3 (some .int) 2 := ⟨⟨w_719, w_2, ⟨by decide +kernel, by decide +kernel, by decide +kernel⟩⟩, trivial, w_717, w_718⟩
theorem ok_X11_about : okV yX11_about cX11_about 3 (some .int) 2 := ⟨⟨w_728, w_5, ⟨by decide +kernel, by decide +kernel, by decide +kernel⟩⟩, trivial, w_726, w_727⟩
theorem ok_X10_bad : okV yX10_bad cX10_bad 4 (some .int) 1 := ⟨⟨w_733, w_2, ⟨by decide +kernel, by decide +kernel, by decide +kernel⟩⟩, trivial, w_731, w_732⟩
theorem ok_X11_bad : okV yX11_bad cX11_bad 4 (some .int) 1 := ⟨⟨w_738, w_5, ⟨by decide +kernel, by decide +kernel, by decide +kernel⟩⟩, trivial, w_736, w_737⟩
theorem ok_X10_sums : okV yX10_sums cX10_sums 3 (some .int) 2 := ⟨⟨w_742, w_2, ⟨by decide +kernel, by decide +kernel, by decide +kernel⟩⟩, trivial, w_740, w_741⟩
theorem ok_X11_sums : okV yX11_sums cX11_sums 3 (some .int) 2 := ⟨⟨w_746, w_5, ⟨by decide +kernel, by decide +kernel, by decide +kernel⟩⟩, trivial, w_744, w_745⟩
theorem ok_X10_owed : okV yX10_owed cX10_owed 6 (some .int) 2 := ⟨⟨w_750, w_2, ⟨by decide +kernel, by decide +kernel, by decide +kernel⟩⟩, trivial, w_748, w_749⟩
theorem ok_X11_owed : okV yX11_owed cX11_owed 5 (some .int) 2 := ⟨⟨w_755, w_5, ⟨by decide +kernel, by decide +kernel, by decide +kernel⟩⟩, trivial, w_753, w_754⟩
theorem ok_X10_chance : okV yX10_chance cX10_chance 8 (some .int) 4 := ⟨⟨w_760, w_2, ⟨by decide +kernel, by decide +kernel, by decide +kernel⟩⟩, trivial, w_758, w_759⟩
theorem ok_X11_chance : okV yX11_chance cX11_chance 8 (some .int) 4 := ⟨⟨w_774, w_5, ⟨by decide +kernel, by decide +kernel, by decide +kernel⟩⟩, trivial, w_772, w_773⟩
theorem ok_X10_twelve : okV yX10_twelve cX10_twelve 9 (some .int) 2 := ⟨⟨w_790, w_2, ⟨by decide +kernel, by decide +kernel, by decide +kernel⟩⟩, trivial, w_788, w_789⟩
theorem ok_X11_twelve : okV yX11_twelve cX11_twelve 9 (some .int) 2 := ⟨⟨w_796, w_5, ⟨by decide +kernel, by decide +kernel, by decide +kernel⟩⟩, trivial, w_794, w_795⟩
theorem ok_X10_part : okV yX10_part cX10_part 2 (some .long) 1 := ⟨⟨w_800, w_2, ⟨by decide +kernel, by decide +kernel, by decide +kernel⟩⟩, trivial, w_798, w_799⟩
theorem ok_X11_part : okV yX11_part cX11_part 2 (some .long) 1 := ⟨⟨w_805, w_5, ⟨by decide +kernel, by decide +kernel, by decide +kernel⟩⟩, trivial, w_803, w_804⟩
theorem ok_X10_beside : okV yX10_beside cX10_beside 6 (some .int) 3 := ⟨⟨w_809, w_2, ⟨by decide +kernel, by decide +kernel, by decide +kernel⟩⟩, trivial, w_807, w_808⟩
theorem ok_X11_beside : okV yX11_beside cX11_beside 5 (some .int) 3 := ⟨⟨w_814, w_5, ⟨by decide +kernel, by decide +kernel, by decide +kernel⟩⟩, trivial, w_812, w_813⟩
theorem ok_X10_clash : okV yX10_clash cX10_clash 5 (some .int) 2 := ⟨⟨w_818, w_2, ⟨by decide +kernel, by decide +kernel, by decide +kernel⟩⟩, trivial, w_816, w_817⟩
theorem ok_X11_clash : okV yX11_clash cX11_clash 10 (some .int) 2 := ⟨⟨w_862, w_5, ⟨by decide +kernel, by decide +kernel, by decide +kernel⟩⟩, trivial, w_860, w_861⟩
theorem ok_X10_turn : okV yX10_turn cX10_turn 4 (some .int) 2 := ⟨⟨w_874, w_2, ⟨by decide +kernel, by decide +kernel, by decide +kernel⟩⟩, trivial, w_872, w_873⟩
theorem ok_X11_turn : okV yX11_turn cX11_turn 9 (some .int) 2 := ⟨⟨w_889, w_5, ⟨by decide +kernel, by decide +kernel, by decide +kernel⟩⟩, trivial, w_887, w_888⟩
theorem ok_X10_image : okV yX10_image cX10_image 2 (some .int) 1 := ⟨⟨w_893, w_2, ⟨by decide +kernel, by decide +kernel, by decide +kernel⟩⟩, trivial, w_891, w_892⟩
theorem ok_X11_image : okV yX11_image cX11_image 3 (some .int) 1 := ⟨⟨w_913, w_5, ⟨by decide +kernel, by decide +kernel, by decide +kernel⟩⟩, trivial, w_911, w_912⟩
theorem ok_X10_from : okV yX10_from cX10_from 2 (some .int) 1 := ⟨⟨w_917, w_2, ⟨by decide +kernel, by decide +kernel, by decide +kernel⟩⟩, trivial, w_915, w_916⟩
theorem ok_X11_from : okV yX11_from cX11_from 3 (some .int) 1 := ⟨⟨w_921, w_5, ⟨by decide +kernel, by decide +kernel, by decide +kernel⟩⟩, trivial, w_919, w_920⟩
theorem ok_X10_count : okV yX10_count cX10_count 2 (some .int) 1 := ⟨⟨w_925, w_2, ⟨by decide +kernel, by decide +kernel, by decide +kernel⟩⟩, trivial, w_923, w_924⟩
theorem ok_X11_count : okV yX11_count cX11_count 2 (some .int) 1 := ⟨⟨w_937, w_5, ⟨by decide +kernel, by decide +kernel, by decide +kernel⟩⟩, trivial, w_935, w_936⟩
theorem ok_X10_digest : okV yX10_digest cX10_digest 4 (some .long) 0 := ⟨⟨w_946, w_2, ⟨by decide +kernel, by decide +kernel, by decide +kernel⟩⟩, trivial, w_944, w_945⟩
theorem ok_X11_digest : okV yX11_digest cX11_digest 5 (some .long) 0 := ⟨⟨w_974, w_5, ⟨by decide +kernel, by decide +kernel, by decide +kernel⟩⟩, trivial, w_972, w_973⟩
set_option maxRecDepth 100000 in
theorem law_end {p : Program} {e : Env} {s : State} {m : MethodId} {below : List Frame} {meth : Method} {c : Code} (l : Launch) {b : Nat} {xs : Nat → Int32} (C0 : lw_At p s m meth c b 10 xs) {H : Heap} {locs : List Loc} {ls : Array Slot} (hS : va_S (fun q : Nat => s.heap.size ≤ q) s.heap H locs) (hl : lv_has ls 4 [(0, .ref b), (3, .int 0)]) : W p l e room_1 s m #[Value.ref b] below meth c H locs 333 19609 (lw_Z below #[Value.ref b] s) (F0 m 1376 ls []) := by
  obtain ⟨hx, hb, hr, hml, hown, hts0, hX, hbl, hlocks, hgv⟩ := id C0
  have hbA : ¬ (fun q : Nat => s.heap.size ≤ q) b := Nat.not_le.mpr hbl
  refine lv_iinc (v := 10) (lv' := [(3, .int 10), (0, .ref b)]) hx hb dL_law_1376 hl (k := 1) rfl (by decide) (by decide) rfl (fun ls hl => ?_)
  refine lv_goto (tgt := 18) hx hb dL_law_1379 (by decide) ?_
  refine lv_iload_n hx hb dL_law_18 rfl (lv_at hl 0 rfl) ?_
  refine lv_aload_n hx hb dL_law_19 rfl (lv_at hl 1 rfl) ?_
  refine va_slen hx hb hX hbl hbA hS dL_law_20 ?_
  refine my_bei (v := 10) rfl ?_
  refine lv_bipush (v := 10) hx hb dL_law_21 (by decide) ?_
  refine lv_isub hx hb dL_law_23 ?_
  refine my_bei (v := 0) (by decide) ?_
  refine lv_icmp_gt (tgt := 1382) hx hb dL_law_24 (by decide) (fun c_24 => ?_) (fun c_24 => absurd (by decide) c_24)
  refine lv_iconst (v := 1) hx hb dL_law_1382 (by decide) ?_
  refine W.widen (k := 600000) (n := 7302249) (Nat.le_of_ble_eq_true rfl) (Nat.le_of_ble_eq_true rfl) ?_
  refine va_forget hS.2.2 ?_
  exact lw_ret hx hb hr hlocks dL_law_1383
