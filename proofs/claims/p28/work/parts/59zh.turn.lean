theorem turn_end {np nr na nf nt fd : Nat} {ss ju : Nat → Int32} {a1 a2 : Int32} {o1 : Option Nat} (hn : np ≤ 30) (h0 : fd ≤ 10) (hfd : fd = nt) (hJ : ∀ z, z < nt → ju z = rJr np nf nr na ss z) (hB : tnF (fun i => bt (rlV np nr (fun i c => ss (3 * i + c + 250)) a2 &&& whV np (nvF (fun i c => ss (4 * i + c + 10)) (fun t c => ss (10 * t + c + 1546)) ju a2 fd) (((1 : Int32) <<< (nI np &&& 31)) - 1) ((fcB (fun i c => ss (54 * i + c + 466)) 0 a2 na).map (rL ss))) i && decide ((fun i c => ss (4 * i + c + 10)) i 0 = a1)) (ahB (fun t c => ss (10 * t + c + 1546)) ju a2 fd) np = o1) : fo o1 = tuV np nt (fun i c => ss (4 * i + c + 10)) (fun t c => ss (10 * t + c + 1546)) (rJr np nf nr na ss) a2 (rlV np nr (fun i c => ss (3 * i + c + 250)) a2 &&& sO (fun i => decide ((fun i c => ss (4 * i + c + 10)) i 0 = a1)) np) ((fcB (fun i c => ss (54 * i + c + 466)) 0 a2 na).map (rL ss)) := by
  subst hfd
  rw [← hB, ← tuV_congr (P := (fun i c => ss (4 * i + c + 10))) (T := (fun t c => ss (10 * t + c + 1546))) (J := ju) (fun _ _ _ _ => rfl) (fun _ _ => rfl) hJ]
  unfold tuV
  exact congrArg fo (tnF_congr np (fun i hi => tq_eq (P := (fun i c => ss (4 * i + c + 10))) hn hi))

