/-! ## Layer B: at the start -/
def mb_0 (i : Nat) : Int32 := if i = 0 then 20 else if i = 1 then 15 else if i = 2 then 6 else if i = 3 then 3 else if i = 4 then 4 else if i = 8 then 1 else if 11 ≤ i ∧ i < 51 then -6 else 0
theorem lb_m0 : ∀ i, i < 107 → mst_0 20 i = mb_0 i := by decide
theorem lb_00 {i : Nat} (h : 51 ≤ i) : mb_0 i = 0 := by
  unfold mb_0
  rw [if_neg (by omega), if_neg (by omega), if_neg (by omega), if_neg (by omega), if_neg (by omega), if_neg (by omega), if_neg (by omega)]
theorem lb_06 {i : Nat} (h : 11 ≤ i) (h2 : i < 51) : mb_0 i = -6 := by
  unfold mb_0
  rw [if_neg (by omega), if_neg (by omega), if_neg (by omega), if_neg (by omega), if_neg (by omega), if_neg (by omega), if_pos ⟨h, h2⟩]
theorem lb_J0 : mb_J 0 0 mb_0 :=
  ⟨(by omega),
  (by omega),
  rfl,
  ⟨0, rfl, Or.inr ⟨rfl, rfl⟩⟩,
  rfl,
  ⟨1, rfl, by omega⟩,
  ⟨by decide, by decide⟩,
  ⟨by decide, by decide⟩,
  ⟨by decide, by decide⟩,
  (by decide),
  (by decide),
  (fun s hs => Or.inl (lb_06 (by omega) (by omega))),
  (fun s hs _ => lb_06 (by omega) (by omega)),
  (fun s hs => Or.inl (lb_06 (by omega) (by omega))),
  (fun p hp => ⟨0, by omega, lb_00 (by omega)⟩),
  (fun i hi => by rw [lb_00 (by omega), Int32.toInt_zero]; omega),
  (fun p q _ _ _ => lb_00 (by omega)),
  (fun i hi _ => lb_00 (by omega)),
  (fun i hi => by rw [lb_00 (by omega), Int32.toInt_zero]; omega),
  (fun p hp => by rw [lb_00 (by omega), Int32.toInt_zero]; omega),
  (by unfold mb_sum; rw [lb_00 (by omega), lb_00 (by omega), lb_00 (by omega), lb_00 (by omega), Int32.toInt_zero]; omega),
  (fun i _ _ => lb_00 (by omega)),
  (by omega),
  (by omega),
  (by omega)⟩
theorem lb_f20 : ∀ i, i < 20 → fl_R 20 (-6) i = -6 := by decide
theorem lb_f16 : ∀ i, i < 16 → fl_R 16 0 i = 0 := by decide
theorem lb_g16 : ∀ i, i < 16 → fl_R 16 (-6) i = -6 := by decide
theorem lb_f4 : ∀ i, i < 4 → fl_R 4 0 i = 0 := by decide
theorem lb_s5 : ∀ i, i < 5 → st_0 5 i = mb_0 i := by decide
theorem lb_RB0 : RB bd_0 mb_0 := by
  refine ⟨fun g i ok => ?_, fun i hi => ?_⟩
  · rcases rb_cl ok with ⟨rfl, hi, e⟩ | ⟨rfl, hi, e⟩ | ⟨rfl, hi, e⟩ | ⟨rfl, hi, e⟩ | ⟨g1, g2, hi, e⟩ | ⟨rfl, hi⟩
    · rw [e, lb_06 (by omega) (by omega)]; exact lb_f20 i hi
    · rw [e, lb_06 (by omega) (by omega)]; exact lb_f20 i hi
    · rw [e, lb_00 (by omega)]; exact lb_f16 i hi
    · rw [e]; exact lb_s5 i hi
    · rw [e, lb_00 (by omega)]
      have : g = 6 ∨ g = 7 ∨ g = 8 ∨ g = 9 ∨ g = 10 ∨ g = 11 := by omega
      rcases this with rfl | rfl | rfl | rfl | rfl | rfl <;> exact lb_f4 i hi
    · rcases hi with ⟨rfl, e⟩ | ⟨rfl, e⟩ | ⟨rfl, e⟩ | ⟨rfl, e⟩ | ⟨rfl, e⟩ | ⟨rfl, e⟩ <;> rw [e] <;> rfl
  · rw [lb_00 (by omega), if_pos rfl]; exact lb_g16 i hi
theorem lb_RR0 : RR xs_0 (mm_0 20) := by
  have e0 : ∀ i, i < 107 → (mm_0 20) 0 i = mb_0 i := lb_m0
  refine ⟨⟨0, 0, by omega, lb_J0.congr e0, lb_RB0.congr e0⟩, ⟨0, 0, by omega, by omega, rfl, rfl, rfl, fun j hj => by omega⟩, fun s hs => Or.inl ⟨rfl, rfl⟩, ⟨0, by omega, rfl, rfl, fun i hi => by omega⟩⟩
