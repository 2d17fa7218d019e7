/-! ## would: the best seed -/
section WOULD3
variable {P : Nat} {X : xs_T} {Z1 : ms_T} {v1 : Int32} {T : Nat → Int32}
abbrev gb_M (w : Nat → Int32) (k j : Nat) : Prop := (∀ i, k ≤ i → i < 50 → (w i).toInt ≤ (w j).toInt) ∧ ∀ i, k ≤ i → i < j → (w i).toInt < (w j).toInt
theorem ga_bsU {p N : Nat} : ∀ (r k : Nat) (b m : Int32), k + r = 50 → 1 ≤ k → (∃ j, j < k ∧ b = nI j ∧ m = mb_we T p N j ∧ (∀ i, i < k → (mb_we T p N i).toInt ≤ (mb_we T p N j).toInt) ∧ ∀ i, i < j → (mb_we T p N i).toInt < (mb_we T p N j).toInt) → ∃ j, j < 50 ∧ mb_bs T p N r k b m = nI j ∧ gb_M (mb_we T p N) 0 j
  | 0, k, b, m, hk, _, ⟨j, h1, h2, h3, h4, h5⟩ => ⟨j, by omega, h2, fun i _ hi => h4 i (by omega), fun i _ hi => h5 i hi⟩
  | r + 1, k, b, m, hk, hk1, ⟨j, h1, h2, h3, h4, h5⟩ => by
    show ∃ j, j < 50 ∧ (if k = 0 ∨ ¬ mb_we T p N k ≤ m then mb_bs T p N r (k + 1) (nI k) (mb_we T p N k) else mb_bs T p N r (k + 1) b m) = nI j ∧ _
    by_cases c : mb_we T p N k ≤ m
    · rw [if_neg (by rintro (x | x); omega; exact x c)]
      refine ga_bsU r (k + 1) b m (by omega) (by omega) ⟨j, by omega, h2, h3, fun i hi => ?_, h5⟩
      by_cases e : i = k
      · subst e; rw [h3, lb_le] at c; exact c
      · exact h4 i (by omega)
    · rw [if_pos (Or.inr c)]
      rw [h3, lb_le] at c
      refine ga_bsU r (k + 1) (nI k) _ (by omega) (by omega) ⟨k, by omega, rfl, rfl, fun i hi => ?_, fun i hi => ?_⟩
      · by_cases e : i = k
        · subst e; exact Int.le_refl _
        · have := h4 i (by omega); omega
      · have := h4 i hi; omega
theorem ga_bs {p N : Nat} : ∃ j, j < 50 ∧ mb_bs T p N 50 0 0 0 = nI j ∧ gb_M (mb_we T p N) 0 j := by
  have e : mb_bs T p N 50 0 0 0 = mb_bs T p N 49 1 (nI 0) (mb_we T p N 0) := by
    show (if 0 = 0 ∨ ¬ mb_we T p N 0 ≤ 0 then mb_bs T p N 49 (0 + 1) (nI 0) (mb_we T p N 0) else _) = _
    rw [if_pos (Or.inl rfl)]
  rw [e]
  exact ga_bsU 49 1 _ _ (by omega) (by omega) ⟨0, by omega, rfl, rfl, fun i hi => by
    have : i = 0 := by omega
    subst this; exact Int.le_refl _, fun i hi => by omega⟩
theorem gb_uniq {w : Nat → Int32} {i j : Nat} (hi : i < 50) (hj : j < 50) (h1 : gb_M w 0 i) (h2 : gb_M w 0 j) : i = j := by
  have a1 := h1.1 j (by omega) hj
  have a2 := h2.1 i (by omega) hi
  by_cases c : i < j
  · have := h2.2 i (by omega) c; omega
  · by_cases d : j < i
    · have := h1.2 j (by omega) d; omega
    · omega
theorem ga_seL {p N t : Nat} (hp : p < P) (hN : N ≤ 60) (hR : RG Z1 T) (hJ : mb_J P t T) (ht : t + 60 < 20000) (hw : ∀ i, i < 50 → -9999999 ≤ (mb_we T p N i).toInt) : ∀ (k n : Nat) (B : ms_T) (v15 v16 : Int32), k ≤ 50 → k < n →
    ((k = 50 ∧ v16 = -9999999) ∨ ∃ j, k ≤ j ∧ j < 50 ∧ v15 = nI j ∧ v16 = mb_we T p N j ∧ gb_M (mb_we T p N) k j) →
    True → ∃ B' j, j < 50 ∧ gb_M (mb_we T p N) 0 j ∧ f9_would_L192 n v1 (nI p) (nI N) v15 v16 (nI k - 1) (X, Z1, B) = f9_would_b192 (fun _ _ _ _ _ _ _ => none) v1 (nI p) (nI N) (nI j) 0 (-1) (X, Z1, B')
  | k, 0, _, _, _, _, hn, _, _ => by omega
  | 0, n + 1, B, v15, v16, hk, _, hv, _ => by
    rcases hv with ⟨h1, -⟩ | ⟨j, h1, h2, h3, h4, h5⟩
    · omega
    · refine ⟨B, j, h2, h5, ?_⟩
      subst h3
      show f9_would_b192 (f9_would_L192 n) v1 (nI p) (nI N) (nI j) v16 (nI 0 - 1) (X, Z1, B) = _
      unfold f9_would_b192
      rw [if_pos (show nI 0 - 1 < 0 by decide), if_pos (show (-1 : Int32) < 0 by decide)]
  | k + 1, n + 1, B, v15, v16, hk, hn, hv, _ => by
    have hP := hJ.P4
    have hNfu : N < fo_fu := by show N < 1000; omega
    have h4fu : 4 < fo_fu := by show 4 < 1000; omega
    obtain ⟨B1, f1, r1⟩ := ga_copy hR B
    have r2 := r1.set0 (i := 8) (by omega) (nI k)
    have hJ2 : mb_J P t (upd T 8 (nI k)) := hJ.setDraw (by omega)
    obtain ⟨B3, r3, f3⟩ := ga_tvL (rec192 := f9_would_L192 n) (X := X) (Z1 := Z1) (v1 := v1) (v15 := v15) (v16 := v16) (v17 := nI k) (p := p) (N := N) (show 0 < P by omega) (by omega) (by omega) N 0 fo_fu t (ms_set B1 0 (upd (B1 0) 8 (nI k))) (upd T 8 (nI k)) (by omega) hNfu r2 hJ2 (by omega)
    have f4 := ga_weL (rec192 := f9_would_L192 n) (X := X) (Z1 := Z1) (v1 := v1) (v13 := nI N) (v15 := v15) (v16 := v16) (v17 := nI k) (p := p) (by omega) r3 4 0 fo_fu (mb_turns N (upd T 8 (nI k)) (51 + 6 * p)) (by omega) h4fu
    rw [show nI 0 = (0 : Int32) from rfl] at f3 f4
    rw [ga_weE] at f4
    have ew : (mb_turns N (upd T 8 (nI k)) (51 + 6 * p) + mb_to (mb_turns N (upd T 8 (nI k))) p) - mb_by (mb_turns N (upd T 8 (nI k))) p = mb_we T p N k := rfl
    rw [ew] at f4
    have e0 : f9_would_L192 (n + 1) v1 (nI p) (nI N) v15 v16 (nI (k + 1) - 1) (X, Z1, B) = f9_would_L228 (f9_would_L192 n) fo_fu v1 (nI p) (nI N) v15 v16 (nI k) 0 (X, Z1, ms_set B1 0 (upd (B1 0) 8 (nI k))) := by
      show f9_would_b192 (f9_would_L192 n) v1 (nI p) (nI N) v15 v16 (nI (k + 1) - 1) (X, Z1, B) = _
      unfold f9_would_b192
      rw [lb_sub1, if_neg (nI_pos (by omega)), f1, lb_bd, ga_k8, lb_bd, lb_c8]
    rw [e0, f3, f4]
    clear e0 f3 f4
    unfold f9_would_b323
    rw [← Int32.sub_eq_add_neg]
    by_cases c : v16 ≤ mb_we T p N k
    · rw [if_pos c]
      rw [lb_le] at c
      refine ga_seL hp hN hR hJ ht hw k n B3 (nI k) (mb_we T p N k) (by omega) (by omega) (Or.inr ⟨k, Nat.le_refl _, by omega, rfl, rfl, fun i h1 h2 => ?_, fun i h1 h2 => by omega⟩) trivial
      by_cases e : i = k
      · subst e; exact Int.le_refl _
      · rcases hv with ⟨g1, -⟩ | ⟨j, g1, g2, g3, g4, g5⟩
        · omega
        · have := g5.1 i (by omega) h2
          rw [g4] at c
          omega
    · rw [if_neg c]
      rw [lb_le] at c
      rcases hv with ⟨g1, g2⟩ | ⟨j, g1, g2, g3, g4, g5⟩
      · exfalso
        have := hw k (by omega)
        rw [g2] at c
        have e9 : ((-9999999 : Int32)).toInt = -9999999 := rfl
        omega
      · refine ga_seL hp hN hR hJ ht hw k n B3 v15 v16 (by omega) (by omega) (Or.inr ⟨j, by omega, g2, g3, g4, fun i h1 h2 => ?_, fun i h1 h2 => ?_⟩) trivial
        · by_cases e : i = k
          · subst e; rw [g4] at c; omega
          · exact g5.1 i (by omega) h2
        · by_cases e : i = k
          · subst e; rw [g4] at c; omega
          · exact g5.2 i (by omega) h2
end WOULD3
