/-! ## Layer B: the history -/
theorem lb_recL {S0 : ms_T} : ∀ (r k n : Nat) (S : ms_T), k + r = 535 → r < n → f8_record_L11 n (nI k) S = f8_record_b49 (ms_set (ms_set S 2 (fun j => if k ≤ j ∧ j < 535 then S 2 (j + 107) else S 2 j)) 8 (upd (S 8) 0 (S 8 0 - 1)))
  | _, _, 0, _, _, h => by omega
  | 0, k, n + 1, S, hk, hn => by
    show f8_record_b11 _ (nI k) S = _
    unfold f8_record_b11
    have e : ms_set S 2 (fun j => if k ≤ j ∧ j < 535 then S 2 (j + 107) else S 2 j) = S := by
      funext g; unfold ms_set; split
      · next h => rw [h]; funext j; rw [if_neg (by omega)]
      · rfl
    rw [show (535 : Int32) = nI 535 from rfl, if_pos (nI_le (by omega) (by omega)), e]
  | r + 1, k, n + 1, S, hk, hn => by
    show f8_record_b11 (f8_record_L11 n) (nI k) S = _
    unfold f8_record_b11
    have hs : nI k + 1 = nI (k + 1) := (nI_succ k).symm
    have h107 : nI k + (107 : Int32) = nI (k + 107) := lb_add k 107
    rw [show (535 : Int32) = nI 535 from rfl, if_neg (nI_ge (by omega) (by omega)), h107, lb_ck (by omega) (by omega), lb_ck (by omega) (by omega), lb_cl (by omega), lb_cl (by omega), hs, lb_recL (S0 := S0) r (k + 1) n _ (by omega) (by omega), lb_mn (show (8 : Nat) ≠ 2 by decide)]
    congr 2
    funext g; unfold ms_set; split
    · funext j
      rw [if_pos rfl]
      by_cases e : j = k
      · subst e; rw [if_neg (by omega), if_pos (by omega), lb_us]
      · by_cases e2 : k + 1 ≤ j ∧ j < 535
        · rw [if_pos e2, if_pos (by omega), lb_un (by omega)]
        · rw [if_neg e2, if_neg (by omega), lb_un e]
    · rfl
theorem lb_rec49 {S : ms_T} {k : Nat} (hk : S 8 0 = nI k) (hk6 : k < 6) : f8_record_b49 S = some (ms_set (ms_set S 2 (mb_mv (S 0) 0 (107 * k) (S 2))) 8 (upd (S 8) 0 (nI (k + 1)))) := by
  unfold f8_record_b49
  have e : nI k * (107 : Int32) = nI (107 * k) := by rw [show (107 : Int32) = nI 107 from rfl, lb_mul, Nat.mul_comm]
  rw [hk, e, show f8_moves 107 642 (S 0) 0 (nI (107 * k)) (S 2) = some (mb_mv (S 0) 0 (107 * k) (S 2)) from lb_mv (a := 0) (by omega) (by omega) (by omega) (by omega), lb_bd, lb_mn (show (8 : Nat) ≠ 2 by decide), hk, nI_succ]
/-- what recording does -/
theorem lb_record {S : ms_T} {k : Nat} (hk : S 8 0 = nI k) (hk6 : k ≤ 6) : ∃ S', f8_record S = some S' ∧ S' 8 0 = nI (if k = 6 then 6 else k + 1) ∧ (∀ i, i ≠ 0 → S' 8 i = S 8 i) ∧ (∀ j, j ≠ 2 → j ≠ 8 → S' j = S j) ∧
    (∀ i, i < 107 → S' 2 (107 * (if k = 6 then 5 else k) + i) = S 0 i) ∧ (∀ j i, j < (if k = 6 then 5 else k) → i < 107 → S' 2 (107 * j + i) = S 2 (107 * (if k = 6 then j + 1 else j) + i)) := by
  by_cases h6 : k = 6
  · subst h6
    simp only [if_pos]
    have e1 : f8_record S = f8_record_L11 fo_fu 0 S := by
      unfold f8_record; rw [hk, if_pos (by decide)]
    rw [e1, show f8_record_L11 fo_fu 0 S = _ from lb_recL (S0 := S) 535 0 1000 S rfl (by omega)]
    have e5 : S 8 0 - 1 = nI 5 := by rw [hk]; decide
    rw [e5, lb_rec49 (k := 5) (by rw [lb_ms, lb_us]) (by omega)]
    refine ⟨_, rfl, ?_, ?_, ?_, ?_, ?_⟩
    · rw [lb_ms, lb_us]
    · intro i hi; rw [lb_ms, lb_un hi, lb_ms, lb_un hi]
    · intro j h1 h2; rw [lb_mn h2, lb_mn h1, lb_mn h2, lb_mn h1]
    · intro i hi
      rw [lb_mn (show (2 : Nat) ≠ 8 by decide), lb_ms, lb_mvI hi, lb_mn (show (0 : Nat) ≠ 8 by decide), lb_mn (show (0 : Nat) ≠ 2 by decide), Nat.zero_add]
    · intro j i h1 h2
      rw [lb_mn (show (2 : Nat) ≠ 8 by decide), lb_ms]
      unfold mb_mv
      rw [if_neg (by omega), lb_mn (show (2 : Nat) ≠ 8 by decide), lb_ms, if_pos (by omega)]
      congr 1; omega
  · simp only [if_neg h6]
    have e1 : f8_record S = f8_record_b49 S := by
      unfold f8_record
      rw [hk, if_neg (show ¬ nI k = (6 : Int32) from fun e => h6 ((lb_inj (b := 6) (by omega) (by omega)).mp e))]
    rw [e1, lb_rec49 hk (by omega)]
    refine ⟨_, rfl, ?_, ?_, ?_, ?_, ?_⟩
    · rw [lb_ms, lb_us]
    · intro i hi; rw [lb_ms, lb_un hi]
    · intro j h1 h2; rw [lb_mn h2, lb_mn h1]
    · intro i hi
      rw [lb_mn (show (2 : Nat) ≠ 8 by decide), lb_ms, lb_mvI hi, Nat.zero_add]
    · intro j i h1 h2
      rw [lb_mn (show (2 : Nat) ≠ 8 by decide), lb_ms]
      unfold mb_mv
      rw [if_neg (by omega)]
theorem lb_stage {X : xs_T} {S : ms_T} (h : RR X S) : ∃ f B, f < 7 ∧ X 2 0 0 = nI f ∧ f2_stage X = some (xs_set X (7 + f) B) ∧ mb_S B (S 0) ∧ xs_h X (xs_set X (7 + f) B) = xs_set X (7 + f) B := by
  obtain ⟨⟨P, t, ht, hJ, hR⟩, ⟨f, k, hf, hk, a1, a2, a3, a4⟩, h3, h4⟩ := h
  obtain ⟨B, c1, c2⟩ := lb_copyB (S := X (7 + f)) hR
  refine ⟨f, B, hf, a1, ?_, ⟨P, t, ht, hJ, c2⟩, ?_⟩
  · unfold f2_stage
    rw [a1, lb_ck hf (by omega), lb_cl (by omega), c1, lb_bd]
  · funext g
    unfold xs_h
    split
    · rfl
    · next hg => rw [lb_xn (by omega)]
/-- a state that is written down, but not counted -/
theorem RR.staged {X : xs_T} {S : ms_T} (h : RR X S) {f : Nat} {B : ms_T} (hf : f < 7) (e : X 2 0 0 = nI f) : RR (xs_set X (7 + f) B) S := by
  obtain ⟨h1, ⟨f', k, hf', hk, a1, a2, a3, a4⟩, h3, ⟨L, b0, b1, b2, b3⟩⟩ := h
  have ef : f' = f := (lb_inj (by omega) (by omega)).mp (a1.symm.trans e)
  subst ef
  refine ⟨?_, ⟨f', k, hf', hk, ?_, ?_, a3, ?_⟩, ?_, ⟨L, b0, ?_, b2, ?_⟩⟩
  · rw [lb_xn (by omega)]; exact h1
  · rw [lb_xn (by omega)]; exact a1
  · rw [lb_xn (by omega)]; exact a2
  · intro j hj
    rw [lb_xn (by omega)]; exact a4 j hj
  · intro s hs
    rw [lb_xn (by omega), lb_xn (by omega)]; exact h3 s hs
  · rw [lb_xn (by omega)]; exact b1
  · intro i hi; rw [lb_xn (by omega)]; exact b3 i hi
/-- a state that is counted -/
theorem RR.keep {X : xs_T} {S : ms_T} (h : RR X S) {f : Nat} {B : ms_T} (hf : f < 7) (e : X 2 0 0 = nI f) (hB : mb_S B (S 0)) {B' : ms_T} {T' : Nat → Int32} (h' : mb_S B' T') :
    ∃ q S', f2_keepStaged ((xs_set (xs_set X (7 + f) B) 5 B') 2) = some q ∧ f8_record S = some S' ∧ S' 0 = S 0 ∧ (∀ j, j ≠ 2 → j ≠ 8 → S' j = S j) ∧ (∀ i, i ≠ 0 → S' 8 i = S 8 i) ∧ RR (xs_set (xs_set (xs_set X (7 + f) B) 5 B') 2 q) (ms_set S' 0 T') := by
  obtain ⟨h1, ⟨f', k, hf', hk, a1, a2, a3, a4⟩, h3, ⟨L, b0, b1, b2, b3⟩⟩ := h
  have ef : f' = f := (lb_inj (by omega) (by omega)).mp (a1.symm.trans e)
  subst ef
  obtain ⟨S', r1, r2, r3, r4, r5, r6⟩ := lb_record a3 hk
  have ek : f2_keepStaged ((xs_set (xs_set X (7 + f') B) 5 B') 2) = some (ms_set (ms_set (X 2) 0 (upd (X 2 0) 0 (nI (if f' = 6 then 0 else f' + 1)))) 0 (upd (ms_set (X 2) 0 (upd (X 2 0) 0 (nI (if f' = 6 then 0 else f' + 1))) 0) 1 (nI (if k = 6 then 6 else k + 1)))) := by
    rw [lb_xn (show (2 : Nat) ≠ 5 by decide), lb_xn (show 2 ≠ 7 + f' by omega)]
    have b20 : ∀ y, f2_keepStaged_b20 y (X 2) = some (ms_set (ms_set (X 2) 0 (upd (X 2 0) 0 y)) 0 (upd (ms_set (X 2) 0 (upd (X 2 0) 0 y) 0) 1 (nI (if k = 6 then 6 else k + 1)))) := by
      intro y
      unfold f2_keepStaged_b20
      have v1 : ms_set (X 2) 0 (upd (X 2 0) 0 y) 0 1 = nI k := by rw [lb_ms, lb_un (by omega)]; exact a2
      rw [v1]
      have hs : nI k + 1 = nI (k + 1) := (nI_succ k).symm
      rw [hs]
      by_cases h6 : k = 6
      · subst h6; rw [if_pos (show (6 : Int32) < nI 7 by decide), if_pos rfl]; rfl
      · rw [if_neg (show ¬ (6 : Int32) < nI (k + 1) from nI_nlt (a := 6) (by omega) (by omega)), if_neg h6]
    unfold f2_keepStaged
    rw [a1]
    by_cases h6 : f' = 6
    · subst h6
      rw [if_pos (show (6 : Int32) ≤ nI 6 by decide), b20, if_pos rfl]; rfl
    · rw [if_neg (show ¬ (6 : Int32) ≤ nI f' from nI_ge (b := 6) (by omega) (by omega)), b20, if_neg h6, nI_succ]
  refine ⟨_, S', ek, r1, r4 0 (by omega) (by omega), r4, r3, ?_⟩
  refine ⟨?_, ⟨if f' = 6 then 0 else f' + 1, if k = 6 then 6 else k + 1, ?_, ?_, ?_, ?_, ?_, ?_⟩, ?_, ⟨L, b0, ?_, ?_, ?_⟩⟩
  · rw [lb_xn (show (5 : Nat) ≠ 2 by decide), lb_xs, lb_ms]; exact h'
  · split <;> omega
  · split <;> omega
  · rw [lb_xs, lb_ms, lb_un (by omega), lb_ms, lb_us]
  · rw [lb_xs, lb_ms, lb_us]
  · rw [lb_mn (show (8 : Nat) ≠ 0 by decide)]; exact r2
  · intro j hj
    rw [lb_xn (by omega), lb_xn (by omega), lb_mn (show (2 : Nat) ≠ 0 by decide)]
    by_cases hk6 : k = 6
    · subst hk6
      simp only [if_pos] at hj r5 r6 ⊢
      by_cases hj5 : j = 5
      · subst hj5
        have ei : (7 + ((if f' = 6 then 0 else f' + 1) + 7 - 6 + 5) % 7) = 7 + f' := by split <;> omega
        rw [ei, lb_xs]
        exact hB.congr r5
      · have ei : (7 + ((if f' = 6 then 0 else f' + 1) + 7 - 6 + j) % 7) = 7 + (f' + 7 - 6 + (j + 1)) % 7 := by split <;> omega
        rw [ei, lb_xn (by omega)]
        exact (a4 (j + 1) (by omega)).congr (fun i hi => r6 j i (by omega) hi)
    · simp only [if_neg hk6] at hj r5 r6 ⊢
      by_cases hj5 : j = k
      · subst hj5
        have ei : (7 + ((if f' = 6 then 0 else f' + 1) + 7 - (j + 1) + j) % 7) = 7 + f' := by split <;> omega
        rw [ei, lb_xs]
        exact hB.congr r5
      · have ei : (7 + ((if f' = 6 then 0 else f' + 1) + 7 - (k + 1) + j) % 7) = 7 + (f' + 7 - k + j) % 7 := by split <;> omega
        rw [ei, lb_xn (by omega)]
        exact (a4 j (by omega)).congr (fun i hi => r6 j i (by omega) hi)
  · intro s hs
    rw [lb_xn (by omega), lb_xn (by omega), lb_xn (by omega), lb_xn (by omega), lb_xn (by omega), lb_xn (by omega), lb_mn (by omega), lb_mn (by omega), r4 4 (by omega) (by omega), r4 3 (by omega) (by omega)]
    exact h3 s hs
  · rw [lb_xn (by omega), lb_xn (by omega), lb_xn (by omega)]; exact b1
  · rw [lb_mn (by omega), r3 1 (by omega)]; exact b2
  · intro i hi
    rw [lb_xn (by omega), lb_xn (by omega), lb_xn (by omega), lb_mn (by omega), r4 5 (by omega) (by omega)]; exact b3 i hi
/-- a change that may be an error, on both sides -/
theorem lb_change {X : xs_T} {S : ms_T} (h : RR X S) {k7 : ms_T → Option (Int32 × ms_T)} {k8 : ms_T → Option (Int32 × ms_T)}
    (hc : (∃ v : Int32, v < 0 ∧ k7 (X 5) = some (v, X 5) ∧ k8 S = some (v, S)) ∨ (∃ v B' T', ¬ v < 0 ∧ k7 (X 5) = some (v, B') ∧ mb_S B' T' ∧ ∀ S', f8_record S = some S' → S' 0 = S 0 → k8 S = some (v, ms_set S' 0 T'))) :
    ∃ r X' S', (fo_bd (f2_stage X) (fun q8 => fo_bd (k7 ((xs_h X q8) 5)) (fun q17 => fo_bd (f7_changed q17.1 (xs_set (xs_h X q8) 5 q17.2)) (fun q20 => some (q20.1, q20.2))))) = some (r, X') ∧ k8 S = some (r, S') ∧ RR X' S' := by
  obtain ⟨f, B, hf, e, s1, s2, s3⟩ := lb_stage h
  rw [s1, lb_bd, s3, lb_xn (show 5 ≠ 7 + f by omega)]
  rcases hc with ⟨v, hv, c1, c2⟩ | ⟨v, B', T', hv, c1, c2, c3⟩
  · rw [c1, lb_bd]
    refine ⟨v, xs_set X (7 + f) B, S, ?_, c2, h.staged hf e⟩
    have e5 : xs_set (xs_set X (7 + f) B) 5 (X 5) = xs_set X (7 + f) B := by
      funext g; unfold xs_set; split
      · next h => subst h; rw [if_neg (by omega)]
      · rfl
    show fo_bd (f7_changed v (xs_set (xs_set X (7 + f) B) 5 (X 5))) _ = _
    unfold f7_changed
    rw [if_pos hv, e5]; rfl
  · rw [c1, lb_bd]
    obtain ⟨q, S', k1, k2, k3, -, -, k4⟩ := h.keep hf e s2 c2
    refine ⟨v, _, ms_set S' 0 T', ?_, c3 S' k2 k3, k4⟩
    show fo_bd (f7_changed v (xs_set (xs_set X (7 + f) B) 5 B')) _ = _
    unfold f7_changed
    rw [if_neg hv, k1]; rfl
