/-! ## the law's start: the two array classes -/
theorem st_K {args : Array Value} {s : State} {dC : Nat → ClassId} {dI : Nat → Nat → Nat} (hts : ∀ w ∈ lw_tbl, w.before args s = true) (hKc : ∀ (k : Nat) (q : vw_C), vwCl[k]? = some q → u_Kn s q.1 q.2.1 q.2.2 (dC k) (dI k)) : ∃ cI cB : ClassId, va_K (dC, dI) vwCl [(cI, .int), (cB, .object "DiceRoads$Board")] s := by
  obtain ⟨cI, kI, comp, h1, h2, h3⟩ := Cond.arrayClass_spec (hts (Cond.arrayClass .int) (List.mem_of_getElem? (i := 55) (by decide +kernel)))
  obtain ⟨cmp, cB, kB, g1, g2, g3, g4, g5⟩ := Cond.arrayOver_spec (hts (Cond.arrayOver (.object "DiceRoads$Board")) (List.mem_of_getElem? (i := 143) (by decide +kernel)))
  refine ⟨cI, cB, hKc, fun k q hq => ?_⟩
  match k, hq with
  | 0, hq =>
    cases hq
    exact ⟨fun n z => ⟨(fun k h => by cases h), kI, h2, comp, h3⟩, h1⟩
  | 1, hq =>
    cases hq
    exact ⟨fun n z => ⟨(fun k h => by cases h), kB, g3, cmp, g4⟩, kB, cmp, g3, g4, g1, g5⟩
  | k + 2, hq => simp at hq
