/-! ## the law's start: static arrays, nest mates' links, arrays of boards -/
set_option maxRecDepth 100000 in
theorem st_T1 {args : Array Value} {s : State} (hg : (Jvm.Cond.and given_1 narrow_1).before args s = true) (hts : ∀ w ∈ lw_tbl, w.before args s = true) : ∃ t, va_Z "DiceRoads" "FIRST_VALUES" "[I" (.ref t) (fun q => s.heap.size ≤ q) s s.heap ∧ va_T .int t 5 (fun j => .int (fv_1 j)) (fun q => s.heap.size ≤ q) s s.heap := by
  have hs := flat_of_before _ hg
  obtain ⟨t, e, hT⟩ := va_Tof (N := 5) (tm := (Jvm.Term.static "DiceRoads" "FIRST_VALUES" "[I")) (ty := .int) (f := fun j => .int (fv_1 j)) (A := fun q => s.heap.size ≤ q) (by decide) (hs (Jvm.Cond.arrayOf (Jvm.Term.static "DiceRoads" "FIRST_VALUES" "[I") .int) (by decide +kernel)) (va_eqt (z := 5) (hs (Jvm.Cond.eq (Jvm.Term.length (Jvm.Term.static "DiceRoads" "FIRST_VALUES" "[I")) (Jvm.Term.int 5)) (by decide +kernel))) (fun j hj => by
    rcases (show j = 0 ∨ j = 1 ∨ j = 2 ∨ j = 3 ∨ j = 4 by omega) with rfl | rfl | rfl | rfl | rfl
    · exact va_eqt (z := 20) (hs (Jvm.Cond.eq (Jvm.Term.elem (Jvm.Term.static "DiceRoads" "FIRST_VALUES" "[I") (Jvm.Term.int 0)) (Jvm.Term.int 20)) (by decide +kernel))
    · exact va_eqt (z := 15) (hs (Jvm.Cond.eq (Jvm.Term.elem (Jvm.Term.static "DiceRoads" "FIRST_VALUES" "[I") (Jvm.Term.int 1)) (Jvm.Term.int 15)) (by decide +kernel))
    · exact va_eqt (z := 6) (hs (Jvm.Cond.eq (Jvm.Term.elem (Jvm.Term.static "DiceRoads" "FIRST_VALUES" "[I") (Jvm.Term.int 2)) (Jvm.Term.int 6)) (by decide +kernel))
    · exact va_eqt (z := 3) (hs (Jvm.Cond.eq (Jvm.Term.elem (Jvm.Term.static "DiceRoads" "FIRST_VALUES" "[I") (Jvm.Term.int 3)) (Jvm.Term.int 3)) (by decide +kernel))
    · exact va_eqt (z := 4) (hs (Jvm.Cond.eq (Jvm.Term.elem (Jvm.Term.static "DiceRoads" "FIRST_VALUES" "[I") (Jvm.Term.int 4)) (Jvm.Term.int 4)) (by decide +kernel))) (fun a ha => Nat.not_le.mpr ha)
  exact ⟨t, va_Zof (hts (Jvm.Cond.laysStatic "DiceRoads" "FIRST_VALUES" "[I") (List.mem_of_getElem? (i := 84) (by decide +kernel))) (hts (Jvm.Cond.initialized "DiceRoads") (List.mem_of_getElem? (i := 11) (by decide +kernel))) e (fun a ha => Nat.not_le.mpr ha), hT⟩
set_option maxRecDepth 100000 in
theorem st_T2 {args : Array Value} {s : State} (hg : (Jvm.Cond.and given_1 narrow_1).before args s = true) (hts : ∀ w ∈ lw_tbl, w.before args s = true) : ∃ t, va_Z "DiceRoads" "LEAST_VALUES" "[I" (.ref t) (fun q => s.heap.size ≤ q) s s.heap ∧ va_T .int t 5 (fun j => .int (fv_2 j)) (fun q => s.heap.size ≤ q) s s.heap := by
  have hs := flat_of_before _ hg
  obtain ⟨t, e, hT⟩ := va_Tof (N := 5) (tm := (Jvm.Term.static "DiceRoads" "LEAST_VALUES" "[I")) (ty := .int) (f := fun j => .int (fv_2 j)) (A := fun q => s.heap.size ≤ q) (by decide) (hs (Jvm.Cond.arrayOf (Jvm.Term.static "DiceRoads" "LEAST_VALUES" "[I") .int) (by decide +kernel)) (va_eqt (z := 5) (hs (Jvm.Cond.eq (Jvm.Term.length (Jvm.Term.static "DiceRoads" "LEAST_VALUES" "[I")) (Jvm.Term.int 5)) (by decide +kernel))) (fun j hj => by
    rcases (show j = 0 ∨ j = 1 ∨ j = 2 ∨ j = 3 ∨ j = 4 by omega) with rfl | rfl | rfl | rfl | rfl
    · exact va_eqt (z := 0) (hs (Jvm.Cond.eq (Jvm.Term.elem (Jvm.Term.static "DiceRoads" "LEAST_VALUES" "[I") (Jvm.Term.int 0)) (Jvm.Term.int 0)) (by decide +kernel))
    · exact va_eqt (z := 1) (hs (Jvm.Cond.eq (Jvm.Term.elem (Jvm.Term.static "DiceRoads" "LEAST_VALUES" "[I") (Jvm.Term.int 1)) (Jvm.Term.int 1)) (by decide +kernel))
    · exact va_eqt (z := 1) (hs (Jvm.Cond.eq (Jvm.Term.elem (Jvm.Term.static "DiceRoads" "LEAST_VALUES" "[I") (Jvm.Term.int 2)) (Jvm.Term.int 1)) (by decide +kernel))
    · exact va_eqt (z := 1) (hs (Jvm.Cond.eq (Jvm.Term.elem (Jvm.Term.static "DiceRoads" "LEAST_VALUES" "[I") (Jvm.Term.int 3)) (Jvm.Term.int 1)) (by decide +kernel))
    · exact va_eqt (z := 1) (hs (Jvm.Cond.eq (Jvm.Term.elem (Jvm.Term.static "DiceRoads" "LEAST_VALUES" "[I") (Jvm.Term.int 4)) (Jvm.Term.int 1)) (by decide +kernel))) (fun a ha => Nat.not_le.mpr ha)
  exact ⟨t, va_Zof (hts (Jvm.Cond.laysStatic "DiceRoads" "LEAST_VALUES" "[I") (List.mem_of_getElem? (i := 223) (by decide +kernel))) (hts (Jvm.Cond.initialized "DiceRoads") (List.mem_of_getElem? (i := 11) (by decide +kernel))) e (fun a ha => Nat.not_le.mpr ha), hT⟩
set_option maxRecDepth 100000 in
theorem st_T3 {args : Array Value} {s : State} (hg : (Jvm.Cond.and given_1 narrow_1).before args s = true) (hts : ∀ w ∈ lw_tbl, w.before args s = true) : ∃ t, va_Z "DiceRoads" "MOST_VALUES" "[I" (.ref t) (fun q => s.heap.size ≤ q) s s.heap ∧ va_T .int t 5 (fun j => .int (fv_3 j)) (fun q => s.heap.size ≤ q) s s.heap := by
  have hs := flat_of_before _ hg
  obtain ⟨t, e, hT⟩ := va_Tof (N := 5) (tm := (Jvm.Term.static "DiceRoads" "MOST_VALUES" "[I")) (ty := .int) (f := fun j => .int (fv_3 j)) (A := fun q => s.heap.size ≤ q) (by decide) (hs (Jvm.Cond.arrayOf (Jvm.Term.static "DiceRoads" "MOST_VALUES" "[I") .int) (by decide +kernel)) (va_eqt (z := 5) (hs (Jvm.Cond.eq (Jvm.Term.length (Jvm.Term.static "DiceRoads" "MOST_VALUES" "[I")) (Jvm.Term.int 5)) (by decide +kernel))) (fun j hj => by
    rcases (show j = 0 ∨ j = 1 ∨ j = 2 ∨ j = 3 ∨ j = 4 by omega) with rfl | rfl | rfl | rfl | rfl
    · exact va_eqt (z := 99) (hs (Jvm.Cond.eq (Jvm.Term.elem (Jvm.Term.static "DiceRoads" "MOST_VALUES" "[I") (Jvm.Term.int 0)) (Jvm.Term.int 99)) (by decide +kernel))
    · exact va_eqt (z := 99) (hs (Jvm.Cond.eq (Jvm.Term.elem (Jvm.Term.static "DiceRoads" "MOST_VALUES" "[I") (Jvm.Term.int 1)) (Jvm.Term.int 99)) (by decide +kernel))
    · exact va_eqt (z := 99) (hs (Jvm.Cond.eq (Jvm.Term.elem (Jvm.Term.static "DiceRoads" "MOST_VALUES" "[I") (Jvm.Term.int 2)) (Jvm.Term.int 99)) (by decide +kernel))
    · exact va_eqt (z := 7) (hs (Jvm.Cond.eq (Jvm.Term.elem (Jvm.Term.static "DiceRoads" "MOST_VALUES" "[I") (Jvm.Term.int 3)) (Jvm.Term.int 7)) (by decide +kernel))
    · exact va_eqt (z := 20) (hs (Jvm.Cond.eq (Jvm.Term.elem (Jvm.Term.static "DiceRoads" "MOST_VALUES" "[I") (Jvm.Term.int 4)) (Jvm.Term.int 20)) (by decide +kernel))) (fun a ha => Nat.not_le.mpr ha)
  exact ⟨t, va_Zof (hts (Jvm.Cond.laysStatic "DiceRoads" "MOST_VALUES" "[I") (List.mem_of_getElem? (i := 225) (by decide +kernel))) (hts (Jvm.Cond.initialized "DiceRoads") (List.mem_of_getElem? (i := 11) (by decide +kernel))) e (fun a ha => Nat.not_le.mpr ha), hT⟩
theorem st_F {args : Array Value} {s : State} (hg : (Jvm.Cond.and given_1 narrow_1).before args s = true) (hts : ∀ w ∈ lw_tbl, w.before args s = true) : ∃ t1 t2 t3, sn_W t1 t2 t3 (fun q => s.heap.size ≤ q) s s.heap := by
  obtain ⟨t1, a1, b1⟩ := st_T1 hg hts
  obtain ⟨t2, a2, b2⟩ := st_T2 hg hts
  obtain ⟨t3, a3, b3⟩ := st_T3 hg hts
  exact ⟨t1, t2, t3, ⟨a1, b1, a2, b2, a3, b3⟩, va_Nw.of rfl (hts (Cond.fieldLinkNest RX0 71 "DiceRoads" "FIRST_VALUES" "[I" RX7) (List.mem_of_getElem? (i := 83) (by decide +kernel))), va_Nw.of rfl (hts (Cond.fieldLinkNest RX0 88 "DiceRoads" "LEAST_VALUES" "[I" RX7) (List.mem_of_getElem? (i := 222) (by decide +kernel))), va_Nw.of rfl (hts (Cond.fieldLinkNest RX0 91 "DiceRoads" "MOST_VALUES" "[I" RX7) (List.mem_of_getElem? (i := 224) (by decide +kernel))), va_Nw.of rfl (hts (Cond.methodLinkNest RX0 11 yX5_init RX7) (List.mem_of_getElem? (i := 35) (by decide +kernel))), va_Nw.of rfl (hts (Cond.methodLinkNest RX0 20 yX1_init RX7) (List.mem_of_getElem? (i := 65) (by decide +kernel)))⟩
theorem st_O {args : Array Value} {s : State} (hts : ∀ w ∈ lw_tbl, w.before args s = true) : va_AO RX0 s := va_AO.of (hts (Cond.arrayOver (.object RX0)) (List.mem_of_getElem? (i := 143) (by decide +kernel)))
