/-! ## Layer B: orders are read -/
abbrev mb_dg (c : Int32) : Prop := ¬ c < 48 ∧ ¬ 57 < c
theorem lb_dg {c : Int32} (h : mb_dg c) : ∃ d, d ≤ 9 ∧ c = nI (48 + d) := by
  obtain ⟨h1, h2⟩ := h
  have h1 : ¬ c < nI 48 := h1
  have h2 : ¬ nI 57 < c := h2
  rw [lb_lt, nI_toInt (by omega)] at h1 h2
  obtain ⟨n, a, b, e⟩ := lb_nat (a := c) (by omega)
  exact ⟨n - 48, by omega, by rw [b]; congr 1; omega⟩
theorem lb_dgI {d : Nat} (h : d ≤ 9) : mb_dg (nI (48 + d)) := ⟨nI_nlt (b := 48) (by omega) (by omega), nI_nlt (a := 57) (by omega) (by omega)⟩
theorem lb_isDig (c : Int32) : (mb_dg c ∧ f4_isDigit c = some 1) ∨ (¬ mb_dg c ∧ f4_isDigit c = some 0) := by
  unfold f4_isDigit
  by_cases h1 : c < 48
  · rw [if_pos h1]; exact Or.inr ⟨fun h => h.1 h1, rfl⟩
  · rw [if_neg h1]
    by_cases h2 : 57 < c
    · rw [if_pos h2]; exact Or.inr ⟨fun h => h.2 h2, rfl⟩
    · rw [if_neg h2]; exact Or.inl ⟨⟨h1, h2⟩, rfl⟩
/-- the pad on both sides -/
abbrev mb_Z (Z : ms_T) (C : Nat → Int32) (L : Nat) : Prop := L ≤ 80 ∧ Z 1 0 = nI L ∧ ∀ i, i < L → Z 0 i = C i
abbrev mb_M (S : ms_T) (C : Nat → Int32) (L : Nat) : Prop := L ≤ 80 ∧ S 8 1 = nI L ∧ ∀ i, i < L → S 5 i = C i
theorem lb_chr {S : ms_T} {C : Nat → Int32} {L a : Nat} (h : mb_M S C L) (ha : a ≤ 80) : f8_character (nI a) S = some (if a < L then C a else -1) := by
  obtain ⟨h0, h1, h2⟩ := h
  unfold f8_character
  rw [h1]
  by_cases c : a < L
  · rw [if_neg (nI_ge c (by omega)), lb_ck (by omega) (by omega), lb_cl (by omega), h2 a c, if_pos c]
  · rw [if_pos (nI_le (by omega) (by omega)), if_neg c]
theorem lb_dig8 {S : ms_T} {C : Nat → Int32} {L a : Nat} (h : mb_M S C L) (ha : a ≤ 80) (h6 : S 8 6 = nI a) : (a < L ∧ mb_dg (C a) ∧ f8_isDigit S = some 1) ∨ (¬ (a < L ∧ mb_dg (C a)) ∧ f8_isDigit S = some 0) := by
  unfold f8_isDigit
  rw [h6, lb_chr h ha, lb_bd]
  by_cases c : a < L
  · rw [if_pos c]
    have hw : f8_within (C a) (48 : Int32) (57 : Int32) = f8_within (C a) (nI 48) (nI 57) := rfl
    rw [hw]
    rcases lb_within (v := C a) (a := 48) (b := 57) (by omega) (by omega) with ⟨d1, d2⟩ | ⟨d1, d2, d3, -⟩
    · right
      refine ⟨fun hh => ?_, by rw [d1]; rfl⟩
      rcases d2 with d2 | d2
      · exact hh.2.1 d2
      · exact d2 (lb_nlt.mp hh.2.2)
    · left
      exact ⟨c, ⟨d2, lb_nlt.mpr d3⟩, by rw [d1]; rfl⟩
  · rw [if_neg c]
    right
    exact ⟨fun hh => c hh.1, rfl⟩
theorem lb_next0 {S : ms_T} {C : Nat → Int32} {L a : Nat} (h : mb_M S C L) (ha : a ≤ 80) (h6 : S 8 6 = nI a) : (a < L ∧ C a = 59 ∧ f8_isNext 59 S = some (1, ms_set S 8 (upd (S 8) 6 (nI (a + 1))))) ∨ (¬ (a < L ∧ C a = 59) ∧ f8_isNext 59 S = some (0, S)) := by
  have hs : nI a + (1 : Int32) = nI (a + 1) := (nI_succ a).symm
  have self : ms_set S 8 (upd (S 8) 6 (nI a + 0)) = S := by
    rw [Int32.add_zero, lb_ui' h6.symm]
    funext g; unfold ms_set; split
    · next h => rw [h]
    · rfl
  unfold f8_isNext f8_isNext_b17 f8_isNext_b32
  rw [h6, lb_chr h ha, lb_bd, if_neg (show ¬ (1 : Int32) = 0 by decide), if_pos (show (0 : Int32) = 0 from rfl), hs, self]
  by_cases c : a < L
  · rw [if_pos c]
    by_cases c2 : C a = 59
    · rw [if_pos c2]; exact Or.inl ⟨c, c2, rfl⟩
    · rw [if_neg c2]; exact Or.inr ⟨fun h => c2 h.2, rfl⟩
  · rw [if_neg c, if_neg (show ¬ (-1 : Int32) = 59 by decide)]
    exact Or.inr ⟨fun h => c h.1, rfl⟩
/-! the class's automaton -/
theorem lb_ff {Z : ms_T} {C : Nat → Int32} {L a n : Nat} {due : Int32} (h : mb_Z Z C L) (ha : a < L) : f4_firstFault_L4 80 (n + 1) due (nI a) Z = fo_bd (f4_dueBehind due (C a)) (fun q => if q = -1 then some (nI a) else f4_firstFault_L4 80 n q (nI (a + 1)) Z) := by
  obtain ⟨h0, h1, h2⟩ := h
  show f4_firstFault_b4 80 (f4_firstFault_L4 80 n) due (nI a) Z = _
  unfold f4_firstFault_b4 f3_length f3_at
  have hs : nI a + (1 : Int32) = nI (a + 1) := (nI_succ a).symm
  rw [lb_bd, h1, if_neg (nI_ge ha (by omega)), if_neg (nI_ge ha (by omega)), lb_at (by omega) (by omega), lb_bd, lb_bd, h2 a ha, hs]
theorem lb_ffE {Z : ms_T} {C : Nat → Int32} {L n : Nat} {due : Int32} (h : mb_Z Z C L) : f4_firstFault_L4 80 (n + 1) due (nI L) Z = if due < 3 then some (nI L) else some (-6) := by
  obtain ⟨h0, h1, h2⟩ := h
  show f4_firstFault_b4 80 (f4_firstFault_L4 80 n) due (nI L) Z = _
  unfold f4_firstFault_b4 f3_length
  rw [lb_bd, h1, if_pos (nI_le (Nat.le_refl _) (by omega)), lb_bd]
/-- digits behind the first one -/
theorem lb_dueD {due c : Int32} (h : due = 3 ∨ due = 4 ∨ due = 5 ∨ due = 6) (hc : mb_dg c) : f4_dueBehind due c = some (if due = 3 then -1 else due - 1) := by
  obtain ⟨d, hd, rfl⟩ := lb_dg hc
  have h59 : ¬ nI (48 + d) = 59 := fun e => by
    have := (lb_inj (b := 59) (by omega) (by omega)).mp e
    omega
  unfold f4_dueBehind f4_dueBehind_b22
  rcases lb_isDig (nI (48 + d)) with ⟨-, e⟩ | ⟨e, -⟩
  · rw [if_neg h59, e, lb_bd, if_neg (show ¬ (1 : Int32) = 0 by decide)]
    rcases h with rfl | rfl | rfl | rfl <;> rfl
  · exact absurd hc e
theorem lb_dueN {due c : Int32} (h : due = 3 ∨ due = 4 ∨ due = 5 ∨ due = 6) (hc : ¬ mb_dg c) : f4_dueBehind due c = some (if c = 59 then 0 else -1) := by
  unfold f4_dueBehind f4_dueBehind_b22
  rcases lb_isDig c with ⟨e, -⟩ | ⟨-, e⟩
  · exact absurd e hc
  · rw [e, lb_bd, if_pos rfl]
    rcases h with rfl | rfl | rfl | rfl
    · rw [if_neg (show ¬ (3 : Int32) = 0 by decide), if_neg (show ¬ (3 : Int32) < 3 by decide)]
      by_cases c59 : c = 59
      · rw [if_pos c59, if_pos c59]
      · rw [if_neg c59, if_neg c59]
    · rw [if_neg (show ¬ (4 : Int32) = 0 by decide), if_neg (show ¬ (4 : Int32) < 3 by decide)]
      by_cases c59 : c = 59
      · rw [if_pos c59, if_pos c59]
      · rw [if_neg c59, if_neg c59]
    · rw [if_neg (show ¬ (5 : Int32) = 0 by decide), if_neg (show ¬ (5 : Int32) < 3 by decide)]
      by_cases c59 : c = 59
      · rw [if_pos c59, if_pos c59]
      · rw [if_neg c59, if_neg c59]
    · rw [if_neg (show ¬ (6 : Int32) = 0 by decide), if_neg (show ¬ (6 : Int32) < 3 by decide)]
      by_cases c59 : c = 59
      · rw [if_pos c59, if_pos c59]
      · rw [if_neg c59, if_neg c59]
/-- the class's carrying out, over the characters of an order -/
theorem lb_coD {X : xs_T} {C : Nat → Int32} {L a n num : Nat} {done l : Int32} (h : mb_Z (X 3) C L) (ha : a < L) {d : Nat} (hd : d ≤ 9) (hc : C a = nI (48 + d)) : f7_carryOut_L38 (n + 1) done l (nI num) 1 (nI a) X = f7_carryOut_L38 n done l (nI (10 * num + d)) 1 (nI (a + 1)) X := by
  obtain ⟨h0, h1, h2⟩ := h
  have hs : nI a + (1 : Int32) = nI (a + 1) := (nI_succ a).symm
  show f7_carryOut_b38 (f7_carryOut_L38 n) done l (nI num) 1 (nI a) X = _
  unfold f7_carryOut_b38 f7_carryOut_b81 f7_carryOut_b149 f3_length f3_at
  have h59 : ¬ nI (48 + d) = 59 := fun e => by
    have := (lb_inj (b := 59) (by omega) (by omega)).mp e
    omega
  have en : ((10 : Int32) * nI num) + nI (48 + d) - 48 = nI (10 * num + d) := by
    rw [show (10 : Int32) = nI 10 from rfl, lb_mul, lb_add, show (48 : Int32) = nI 48 from rfl, lb_sub (by omega)]
    congr 1; omega
  have e1 : f4_isDigit (nI (48 + d)) = some 1 := by
    rcases lb_isDig (nI (48 + d)) with ⟨-, e⟩ | ⟨e, -⟩
    · exact e
    · exact absurd (lb_dgI hd) e
  rw [lb_bd, lb_bd, h1, if_neg (nI_nlt (by omega) (by omega)), if_neg (show ¬ (1 : Int32) = 0 by decide), if_neg (nI_ge ha (by omega)), if_neg (nI_ge ha (by omega)), lb_at (by omega) (by omega), lb_bd, lb_bd, h2 a ha, hc, if_neg h59, e1, lb_bd, if_neg (show ¬ (1 : Int32) = 0 by decide), hs, en]
theorem lb_coL {X : xs_T} {C : Nat → Int32} {L a n : Nat} {done l num : Int32} (h : mb_Z (X 3) C L) (ha : a < L) (hc : C a = 99 ∨ C a = 112 ∨ C a = 116 ∨ C a = 120) : f7_carryOut_L38 (n + 1) done l num 1 (nI a) X = f7_carryOut_L38 n done (C a) num 1 (nI (a + 1)) X := by
  obtain ⟨h0, h1, h2⟩ := h
  have hs : nI a + (1 : Int32) = nI (a + 1) := (nI_succ a).symm
  show f7_carryOut_b38 (f7_carryOut_L38 n) done l num 1 (nI a) X = _
  unfold f7_carryOut_b38 f7_carryOut_b81 f7_carryOut_b149 f3_length f3_at
  rw [lb_bd, lb_bd, h1, if_neg (nI_nlt (by omega) (by omega)), if_neg (show ¬ (1 : Int32) = 0 by decide), if_neg (nI_ge ha (by omega)), if_neg (nI_ge ha (by omega)), lb_at (by omega) (by omega), lb_bd, lb_bd, h2 a ha, hs]
  rcases hc with hc | hc | hc | hc <;> rw [hc] <;> rfl
/-- the digits of a number -/
abbrev mb_rel (B : Nat) (due : Int32) (num r : Nat) : Prop := (due = 3 ∧ (num = 0 ∨ B ≤ 10 * num) ∧ num ≤ 9999) ∨ (B = 10000 ∧ ((due = 6 ∧ 1 ≤ num ∧ num ≤ 9 ∧ 3 ≤ r) ∨ (due = 5 ∧ 10 ≤ num ∧ num ≤ 99 ∧ 2 ≤ r) ∨ (due = 4 ∧ 100 ≤ num ∧ num ≤ 999 ∧ 1 ≤ r)))
abbrev mb_S8 (S S' : ms_T) : Prop := (∀ g, g ≠ 8 → S' g = S g) ∧ ∀ i, i < 6 → S' 8 i = S 8 i
theorem lb_numL {Z : ms_T} {C : Nat → Int32} {L B : Nat} (hZ : mb_Z Z C L) (hB : B = 10 ∨ B = 10000) : ∀ (r a num : Nat) (due : Int32) (S : ms_T), a ≤ L → mb_rel B due num r → mb_M S C L → S 8 6 = nI a → S 8 8 = nI num →
    ∃ a' num' due' S' k, a' = a + k ∧ k ≤ r ∧ a' ≤ L ∧ (due' = 3 ∨ due' = 4 ∨ due' = 5 ∨ due' = 6) ∧ num' ≤ 9999 ∧ (a' < L → mb_dg (C a') → due' = 3) ∧ (∀ n, f4_firstFault_L4 80 (n + k) due (nI a) Z = f4_firstFault_L4 80 n due' (nI a') Z) ∧
      (∀ m, f8_takesNumber_L34 (m + k + 1) (nI B) S = some (1, S')) ∧ mb_S8 S S' ∧ S' 8 6 = nI a' ∧ S' 8 7 = S 8 7 ∧ S' 8 8 = nI num' ∧ (∀ (X : xs_T) n done l, mb_Z (X 3) C L → f7_carryOut_L38 (n + k) done l (nI num) 1 (nI a) X = f7_carryOut_L38 n done l (nI num') 1 (nI a') X)
  | r, a, num, due, S, ha, hr, hM, h6, h8 => by
    have hdue : due = 3 ∨ due = 4 ∨ due = 5 ∨ due = 6 := by
      rcases hr with ⟨e, -⟩ | ⟨-, ⟨e, -⟩ | ⟨e, -⟩ | ⟨e, -⟩⟩
      · exact Or.inl e
      · exact Or.inr (Or.inr (Or.inr e))
      · exact Or.inr (Or.inr (Or.inl e))
      · exact Or.inr (Or.inl e)
    have hnum : num ≤ 9999 := by
      rcases hr with ⟨-, -, h⟩ | ⟨-, ⟨-, -, h, -⟩ | ⟨-, -, h, -⟩ | ⟨-, -, h, -⟩⟩ <;> omega
    have hB4 : B ≤ 10000 := by omega
    have stop : (∀ m, f8_takesNumber_L34 (m + 0 + 1) (nI B) S = some (1, S)) → (a < L → mb_dg (C a) → due = 3) → ∃ a' num' due' S' k, a' = a + k ∧ k ≤ r ∧ a' ≤ L ∧ (due' = 3 ∨ due' = 4 ∨ due' = 5 ∨ due' = 6) ∧ num' ≤ 9999 ∧ (a' < L → mb_dg (C a') → due' = 3) ∧ (∀ n, f4_firstFault_L4 80 (n + k) due (nI a) Z = f4_firstFault_L4 80 n due' (nI a') Z) ∧
      (∀ m, f8_takesNumber_L34 (m + k + 1) (nI B) S = some (1, S')) ∧ mb_S8 S S' ∧ S' 8 6 = nI a' ∧ S' 8 7 = S 8 7 ∧ S' 8 8 = nI num' ∧ (∀ (X : xs_T) n done l, mb_Z (X 3) C L → f7_carryOut_L38 (n + k) done l (nI num) 1 (nI a) X = f7_carryOut_L38 n done l (nI num') 1 (nI a') X) :=
      fun h1 h2 => ⟨a, num, due, S, 0, rfl, by omega, ha, hdue, hnum, h2, fun _ => rfl, h1, ⟨fun _ _ => rfl, fun _ _ => rfl⟩, h6, rfl, h8, fun _ _ _ _ _ => rfl⟩
    have ten : (10 : Int32) * nI num = nI (10 * num) := lb_mul 10 num
    by_cases e3 : due = 3
    · refine stop (fun m => ?_) (fun _ _ => e3)
      show f8_takesNumber_b34 _ (nI B) S = _
      unfold f8_takesNumber_b34
      rw [h8, ten]
      rcases hr with ⟨-, h | h, -⟩ | ⟨-, ⟨h, -⟩ | ⟨h, -⟩ | ⟨h, -⟩⟩
      · subst h; rw [if_pos (show nI 0 ≤ 0 by decide)]
      · split
        · rfl
        · rw [if_pos (nI_le h (by omega))]
      · rw [e3] at h; exact absurd h (by decide)
      · rw [e3] at h; exact absurd h (by decide)
      · rw [e3] at h; exact absurd h (by decide)
    · rcases hr with ⟨h, -⟩ | ⟨hBe, hr⟩
      · exact absurd h e3
      · subst hBe
        have hnp : 1 ≤ num ∧ num ≤ 999 ∧ 1 ≤ r := by
          rcases hr with ⟨-, h1, h2, h3⟩ | ⟨-, h1, h2, h3⟩ | ⟨-, h1, h2, h3⟩ <;> omega
        have c1 : ¬ nI num ≤ 0 := by rw [lb_le0, nI_toInt (by omega)]; omega
        have c2 : ¬ nI 10000 ≤ nI (10 * num) := nI_ge (by omega) (by omega)
        rcases lb_dig8 hM (by have := hM.1; omega) h6 with ⟨d1, d2, d3⟩ | ⟨d1, d2⟩
        · -- one more digit
          obtain ⟨d, hd, hc⟩ := lb_dg d2
          have hs : nI a + (1 : Int32) = nI (a + 1) := (nI_succ a).symm
          have en : ((10 : Int32) * nI num) + nI (48 + d) - 48 = nI (10 * num + d) := by
            rw [ten, lb_add, show (48 : Int32) = nI 48 from rfl, lb_sub (by omega)]
            congr 1; omega
          obtain ⟨r, rfl⟩ : ∃ r', r = r' + 1 := ⟨r - 1, by omega⟩
          have hr' : mb_rel 10000 (due - 1) (10 * num + d) r := by
            rcases hr with ⟨rfl, h1, h2, h3⟩ | ⟨rfl, h1, h2, h3⟩ | ⟨rfl, h1, h2, h3⟩
            · exact Or.inr ⟨rfl, Or.inr (Or.inl ⟨by decide, by omega, by omega, by omega⟩)⟩
            · exact Or.inr ⟨rfl, Or.inr (Or.inr ⟨by decide, by omega, by omega, by omega⟩)⟩
            · exact Or.inl ⟨by decide, Or.inr (by omega), by omega⟩
          have e86 : (ms_set S 8 (upd (S 8) 8 (nI (10 * num + d)))) 8 6 = nI a := by rw [lb_ms, lb_un (by omega)]; exact h6
          obtain ⟨a', num', due', S', k, u1, u2, u3, u4, u5, u6, u7, u8, u9, u10, u11, u12, u13⟩ := lb_numL hZ hB r (a + 1) (10 * num + d) (due - 1) (ms_set (ms_set S 8 (upd (S 8) 8 (nI (10 * num + d)))) 8 (upd ((ms_set S 8 (upd (S 8) 8 (nI (10 * num + d)))) 8) 6 (nI (a + 1)))) (by omega) hr' ⟨hM.1, by rw [lb_ms, lb_un (by omega), lb_ms, lb_un (by omega)]; exact hM.2.1, fun i hi => by rw [lb_mn (by omega), lb_mn (by omega)]; exact hM.2.2 i hi⟩ (by rw [lb_ms, lb_us]) (by rw [lb_ms, lb_un (by omega), lb_ms, lb_us])
          refine ⟨a', num', due', S', k + 1, by omega, by omega, u3, u4, u5, u6, ?_, ?_, ⟨?_, ?_⟩, u10, ?_, u12, ?_⟩
          · intro n
            rw [show n + (k + 1) = (n + k) + 1 by omega, lb_ff hZ d1, lb_dueD hdue d2, lb_bd, if_neg e3, if_neg ?_]
            · exact u7 n
            · rcases hdue with e | e | e | e
              · exact absurd e e3
              · rw [e]; decide
              · rw [e]; decide
              · rw [e]; decide
          · intro m
            show f8_takesNumber_b34 (f8_takesNumber_L34 (m + (k + 1))) (nI 10000) S = _
            unfold f8_takesNumber_b34
            rw [h8, if_neg c1, ten, if_neg c2, d3, lb_bd, if_neg (show ¬ (1 : Int32) = 0 by decide), h6, lb_chr hM (by have := hM.1; omega), lb_bd, if_pos d1, hc, ← ten, en, e86, hs]
            exact u8 m
          · intro g hg; rw [u9.1 g hg, lb_mn hg, lb_mn hg]
          · intro i hi; rw [u9.2 i hi, lb_ms, lb_un (by omega), lb_ms, lb_un (by omega)]
          · rw [u11, lb_ms, lb_un (by omega), lb_ms, lb_un (by omega)]
          · intro X n done l hX
            rw [show n + (k + 1) = (n + k) + 1 by omega, lb_coD hX d1 hd hc]
            exact u13 X n done l hX
        · refine stop (fun m => ?_) (fun h1 h2 => absurd ⟨h1, h2⟩ d1)
          show f8_takesNumber_b34 _ (nI 10000) S = _
          unfold f8_takesNumber_b34
          rw [h8, if_neg c1, ten, if_neg c2, d2, lb_bd, if_pos rfl]
