/-! ## Layer B: a player comes; undo, saved states -/
theorem mb_J.come {P t : Nat} {T : Nat → Int32} (h : mb_J P t T) (hP : P < 4) {n : Nat} (hn : n ≤ 9999) : mb_J (P + 1) t (upd (upd T (51 + 6 * P) (nI n)) 6 (nI (P + 1))) := by
  have e0 : (T (51 + 6 * P)).toInt = 0 := by rw [h.pz _ (by omega) (by omega)]; rfl
  have hps := h.ps
  have bB := h.bB
  have n0 : (nI n).toInt = n := nI_toInt (by omega)
  exact ⟨(by omega),
  (h.t9),
  (lb_us _ _ _),
  (by
    rw [lb_un (by omega), lb_un (by omega)]
    obtain ⟨m, h1, h2⟩ := h.h7
    exact ⟨m, h1, by omega⟩),
  (by rw [lb_un (by omega), lb_un (by omega)]; exact h.h5),
  (by rw [lb_un (by omega), lb_un (by omega)]; exact h.dr),
  (by rw [lb_un (by omega), lb_un (by omega)]; exact h.wg),
  (by rw [lb_un (by omega), lb_un (by omega)]; exact h.pr),
  (by rw [lb_un (by omega), lb_un (by omega)]; exact h.tl),
  (by rw [lb_un (by omega), lb_un (by omega)]; exact h.cl),
  (by rw [lb_un (by omega), lb_un (by omega)]; exact h.du),
  (fun s hs => by
    rw [lb_un (by omega), lb_un (by omega)]
    rcases h.fo s hs with a | ⟨q, b, c⟩
    · exact Or.inl a
    · exact Or.inr ⟨q, by omega, c⟩),
  (fun s hs => by rw [lb_un (by omega), lb_un (by omega)]; exact h.fi s hs),
  (fun s hs => by
    rw [lb_un (by omega), lb_un (by omega), lb_un (by omega), lb_un (by omega)]
    rcases h.se s hs with a | ⟨a, ⟨q, b, c⟩, d⟩
    · exact Or.inl a
    · exact Or.inr ⟨a, ⟨q, by omega, c⟩, d⟩),
  (fun s hs => by rw [lb_un (by omega), lb_un (by omega)]; exact h.pl s hs),
  (fun s hs => by rw [lb_un (by omega), lb_un (by omega)]; exact h.co s hs),
  (fun p q hp hq e => by rw [lb_un (by omega), lb_un (by omega)]; exact h.cz p q hp hq (by omega)),
  (fun s hs => by rw [lb_un (by omega), lb_un (by omega), lb_un (by omega), lb_un (by omega)]; exact h.az s hs),
  (fun s hs => by rw [lb_un (by omega), lb_un (by omega)]; exact h.ag s hs),
  (fun s hs => by
    rw [lb_un (by omega)]
    by_cases e : s = P
    · rw [lb_ue (by omega)]; omega
    · rw [lb_un (by omega)]; exact h.pu s hs),
  (by rw [lb_sumN (by omega), lb_sumU hP, e0, n0]; omega),
  (fun i h1 h2 => by rw [lb_un (by omega), lb_un (by omega)]; exact h.pz i (by omega) h2),
  (by omega),
  (h.bC),
  (h.bA)⟩
theorem lb_comes {T : Nat → Int32} {P : Nat} (h6 : T 6 = nI P) (hP : P < 4) (pz : ∀ i, 51 + 6 * P ≤ i → i < 75 → T i = 0) (v : Int32) : f8_comes v T = some (nI P, upd (upd T (51 + 6 * P) v) 6 (nI (P + 1))) := by
  have ix : ∀ k, ((51 : Int32) + 6 * nI P + nI k) = nI (51 + 6 * P + k) := fun k => by
    rw [show (51 : Int32) = nI 51 from rfl, show (6 : Int32) = nI 6 from rfl, lb_mul, lb_add, lb_add]
  have L : ∀ (r k n : Nat) (U : Nat → Int32), k + r = 6 → r < n → 1 ≤ k → U 6 = nI P → (∀ i, 51 + 6 * P + 1 ≤ i → i < 75 → U i = 0) → f8_comes_L10 n v (nI P) (nI k) U = some (nI P, upd U 6 (nI (P + 1))) := by
    intro r
    induction r with
    | zero =>
      intro k n U hk hn h1 hU hz
      obtain ⟨n, rfl⟩ : ∃ n', n = n' + 1 := ⟨n - 1, by omega⟩
      show f8_comes_b10 _ v (nI P) (nI k) U = _
      unfold f8_comes_b10
      rw [if_pos (show (6 : Int32) ≤ nI k from nI_le (a := 6) (by omega) (by omega)), lb_k6, lb_k6, lb_c6, hU, nI_succ]
    | succ r IH =>
      intro k n U hk hn h1 hU hz
      obtain ⟨n, rfl⟩ : ∃ n', n = n' + 1 := ⟨n - 1, by omega⟩
      show f8_comes_b10 (f8_comes_L10 n) v (nI P) (nI k) U = _
      unfold f8_comes_b10 f8_comes_b38
      have hs : nI k + 1 = nI (k + 1) := (nI_succ k).symm
      rw [if_neg (show ¬ (6 : Int32) ≤ nI k from nI_ge (b := 6) (by omega) (by omega)), if_neg (nI_ne0 (by omega) (by omega)), ix, lb_ck (by omega) (by omega), lb_cl (by omega), hs, lb_ui' (hz _ (by omega) (by omega)).symm]
      exact IH (k + 1) n U (by omega) (by omega) (by omega) hU hz
  unfold f8_comes
  rw [lb_k6, lb_c6, h6]
  show f8_comes_b10 (f8_comes_L10 999) v (nI P) (nI 0) T = _
  unfold f8_comes_b10 f8_comes_b38
  rw [if_neg (show ¬ (6 : Int32) ≤ nI 0 by decide), if_pos (show nI 0 = 0 from rfl), ix, lb_ck (by omega) (by omega), lb_cl (by omega)]
  exact L 5 1 999 (upd T (51 + 6 * P) v) rfl (by omega) (by omega) (by rw [lb_un (by omega)]; exact h6) (fun i h1 h2 => by rw [lb_un (by omega)]; exact pz i (by omega) h2)
theorem lb_playerC {B : ms_T} {T : Nat → Int32} (h : mb_S B T) (v : Int32) : (∃ e : Int32, e < 0 ∧ f0_addPlayer v B = some (e, B) ∧ f8_whyNoPlayer v T = some e) ∨ (∃ r B' T', ¬ r < 0 ∧ f0_addPlayer v B = some (r, B') ∧ f8_whyNoPlayer v T = some 0 ∧ f8_comes v T = some (r, T') ∧ mb_S B' T') := by
  obtain ⟨P, t, ht, hJ, hR⟩ := h
  have hP := hJ.P4
  unfold f0_addPlayer f8_whyNoPlayer
  have hw : f8_within v (0 : Int32) (9999 : Int32) = f8_within v (nI 0) (nI 9999) := rfl
  rw [hw, lb_k6, lb_c6, hR.z.1, hJ.h6]
  rcases lb_within (v := v) (a := 0) (b := 9999) (by omega) (by omega) with ⟨d1, d2⟩ | ⟨d1, d2, d3, n, rfl, d4, d5⟩
  · left
    refine ⟨-2, by decide, ?_, by rw [d1]; rfl⟩
    by_cases k : v < 0
    · rw [if_pos k]
    · rw [if_neg k, if_neg]
      rcases d2 with d2 | d2
      · exact absurd d2 k
      · exact d2
  · rw [if_neg (show ¬ nI n < (0 : Int32) from d2), if_pos (show nI n ≤ (9999 : Int32) from d3), d1, lb_bd, if_neg (show ¬ (1 : Int32) = 0 by decide)]
    by_cases k4 : P = 4
    · subst k4
      exact Or.inl ⟨-4, by decide, rfl, rfl⟩
    · have k5 : nI P < (4 : Int32) := nI_lt (b := 4) (by omega) (by omega)
      have k6 : ¬ nI P = (4 : Int32) := fun e => k4 ((lb_inj (b := 4) (by omega) (by omega)).mp e)
      rw [if_pos k5, if_neg k6, lb_write (by omega) (by omega), lb_bd]
      right
      have r1 := hR.setP (k := 0) (i := P) (by omega) (by omega) (nI n)
      have r2 := r1.setZ (i := 0) (by omega) (nI (P + 1))
      have z0 : ms_set B 6 (upd (B 6) P (nI n)) 12 0 = nI P := by
        have := r1.z.1
        rw [this, lb_un (by omega), hJ.h6]
      refine ⟨nI P, _, _, nI_pos (by omega), ?_, rfl, lb_comes hJ.h6 (by omega) hJ.pz _, P + 1, t, ht, hJ.come (by omega) d5, r2⟩
      have hs : nI P + 1 = nI (P + 1) := (nI_succ P).symm
      rw [z0, lb_ms, lb_us, hs, lb_sub1]
theorem lb_player {X : xs_T} {S : ms_T} (h : RR X S) (v : Int32) : ∃ r X' S', f7_player v X = some (r, X') ∧ f8_player v S = some (r, S') ∧ RR X' S' := by
  refine lb_change h (k7 := fun B => f0_addPlayer v B) (k8 := f8_player v) ?_
  rcases lb_playerC h.1 v with ⟨e, a0, a1, a2⟩ | ⟨r, B', T', a0, a1, a2, a3, a4⟩
  · refine Or.inl ⟨e, a0, a1, ?_⟩
    unfold f8_player
    rw [a2, lb_bd, if_neg (by rw [lb_nle]; exact a0)]
  · refine Or.inr ⟨r, B', T', a0, a1, a4, ?_⟩
    intro S' e1 e2
    unfold f8_player
    rw [a2, lb_bd, if_pos (by decide), e1, lb_bd, e2, a3]; rfl
theorem lb_undo {X : xs_T} {S : ms_T} (h : RR X S) : ∃ r X' S', f7_undo X = some (r, X') ∧ f8_undo S = some (r, S') ∧ RR X' S' := by
  have h0 := h
  obtain ⟨h1, ⟨f, k, hf, hk, a1, a2, a3, a4⟩, h3, ⟨L, b0, b1, b2, b3⟩⟩ := h
  have hat : hs_at (nI f) = if f = 0 then 6 else f - 1 := by
    unfold hs_at; rw [lb_cl (by omega)]
  unfold f7_undo f2_stepBack f8_undo
  rw [a1, lb_ck hf (by omega), hat, a2, a3]
  by_cases k0 : k = 0
  · subst k0
    -- the class copies all the same, and answers the error
    have cp : ∀ Z D : ms_T, ∃ q, f0_copyFrom Z D = some q := by
      intro Z D
      unfold f0_copyFrom f5_copyFrom f1_copyFrom
      simp only [lb_copyF (show 20 < 1000 by omega), lb_copyF (show 16 < 1000 by omega), lb_copyF (show 5 < 1000 by omega), lb_copyF (show 4 < 1000 by omega), lb_bd]
      exact ⟨_, rfl⟩
    obtain ⟨q, hq⟩ := cp (X (7 + if f = 0 then 6 else f - 1)) (X 5)
    rw [hq, lb_bd, if_pos (show nI 0 = 0 from rfl), if_pos (show nI 0 = 0 from rfl), lb_bd]
    refine ⟨-5, _, S, rfl, rfl, ?_⟩
    have self : xs_h X X = X := by funext g; unfold xs_h; split <;> rfl
    show RR (xs_h X X) S
    rw [self]; exact h0
  · have hi := a4 (k - 1) (by omega)
    have ei : (7 + (f + 7 - k + (k - 1)) % 7) = 7 + if f = 0 then 6 else f - 1 := by split <;> omega
    rw [ei] at hi
    obtain ⟨P, t, ht, hJ, hR⟩ := hi
    obtain ⟨q, hq, hq2⟩ := lb_copyB (S := X 5) hR
    have kz : ¬ nI k = 0 := nI_ne0 (by omega) (by omega)
    have s1 : nI k - 1 = nI (k - 1) := by rw [show k = (k - 1) + 1 by omega]; exact lb_sub1
    have m7 : nI (k - 1) * (107 : Int32) = nI (107 * (k - 1)) := by rw [show (107 : Int32) = nI 107 from rfl, lb_mul, Nat.mul_comm]
    rw [hq, lb_bd, if_neg kz, if_neg kz, lb_bd, s1]
    simp only [lb_ms, lb_us, lb_mn (show (2 : Nat) ≠ 8 by decide), lb_mn (show (0 : Nat) ≠ 8 by decide), lb_mn (show (8 : Nat) ≠ 0 by decide), m7]
    rw [show f8_moves 642 107 (S 2) (nI (107 * (k - 1))) 0 (S 0) = some (mb_mv (S 2) (107 * (k - 1)) 0 (S 0)) from lb_mv (b := 0) (by omega) (by omega) (by omega) (by omega), lb_bd]
    refine ⟨_, _, _, rfl, rfl, ?_⟩
    have gg : ∀ g, xs_h X (xs_set (xs_set X 5 q) 2 (ms_set (ms_set (X 2) 0 (upd (X 2 0) 0 (nI (if f = 0 then 6 else f - 1)))) 0 (upd (upd (X 2 0) 0 (nI (if f = 0 then 6 else f - 1))) 1 (nI (k - 1))))) g = xs_set (xs_set X 5 q) 2 (ms_set (ms_set (X 2) 0 (upd (X 2 0) 0 (nI (if f = 0 then 6 else f - 1)))) 0 (upd (upd (X 2 0) 0 (nI (if f = 0 then 6 else f - 1))) 1 (nI (k - 1)))) g := by
      intro g
      unfold xs_h
      split
      · rfl
      · rw [lb_xn (by omega), lb_xn (by omega)]
    rw [funext gg]
    refine ⟨⟨P, t, ht, ?_, ?_⟩, ⟨if f = 0 then 6 else f - 1, k - 1, ?_, by omega, ?_, ?_, ?_, ?_⟩, ?_, ⟨L, b0, ?_, ?_, ?_⟩⟩
    · refine hJ.congr (fun i hi => ?_)
      rw [lb_ms]
      have := lb_mvI (F := S 2) (S := S 0) (a := 107 * (k - 1)) (b := 0) hi
      rw [Nat.zero_add] at this
      exact this
    · rw [lb_xn (by omega), lb_xs]
      refine hq2.congr (fun i hi => ?_)
      rw [lb_ms]
      have := lb_mvI (F := S 2) (S := S 0) (a := 107 * (k - 1)) (b := 0) hi
      rw [Nat.zero_add] at this
      exact this
    · split <;> omega
    · rw [lb_xs, lb_ms, lb_un (by omega), lb_us]
    · rw [lb_xs, lb_ms, lb_us]
    · rw [lb_mn (by omega), lb_ms, lb_us]
    · intro j hj
      rw [lb_xn (by omega), lb_xn (by omega), lb_mn (by omega), lb_mn (by omega)]
      have ej : (7 + ((if f = 0 then 6 else f - 1) + 7 - (k - 1) + j) % 7) = 7 + (f + 7 - k + j) % 7 := by split <;> omega
      rw [ej]; exact a4 j (by omega)
    · intro s hs
      rw [lb_xn (by omega), lb_xn (by omega), lb_xn (by omega), lb_xn (by omega), lb_mn (by omega), lb_mn (by omega), lb_mn (by omega), lb_mn (by omega)]
      exact h3 s hs
    · rw [lb_xn (by omega), lb_xn (by omega)]; exact b1
    · rw [lb_mn (by omega), lb_ms, lb_un (by omega)]; exact b2
    · intro i hi
      rw [lb_xn (by omega), lb_xn (by omega), lb_mn (by omega), lb_mn (by omega)]; exact b3 i hi
theorem lb_slot {v : Int32} : (f8_within v 0 1 = some 0 ∧ (v < 0 ∨ ¬ v < 0 ∧ (2 : Int32) ≤ v)) ∨ (∃ s, s < 2 ∧ v = nI s ∧ f8_within v 0 1 = some 1 ∧ ¬ v < 0 ∧ ¬ (2 : Int32) ≤ v) := by
  have hw : f8_within v (0 : Int32) (1 : Int32) = f8_within v (nI 0) (nI 1) := rfl
  rw [hw]
  rcases lb_within (v := v) (a := 0) (b := 1) (by omega) (by omega) with ⟨d1, d2⟩ | ⟨d1, d2, d3, n, rfl, d4, d5⟩
  · left
    refine ⟨d1, ?_⟩
    by_cases k : v < 0
    · exact Or.inl k
    · refine Or.inr ⟨k, ?_⟩
      rcases d2 with d2 | d2
      · exact absurd d2 k
      · rw [lb_le, nI_toInt (by omega)] at d2
        rw [show (2 : Int32) = nI 2 from rfl, lb_le, nI_toInt (by omega)]
        omega
  · exact Or.inr ⟨n, by omega, rfl, d1, d2, nI_ge (b := 2) (by omega) (by omega)⟩
theorem lb_save {X : xs_T} {S : ms_T} (h : RR X S) (v : Int32) : ∃ r X' S', f7_save v X = some (r, X') ∧ f8_save v S = some (r, S') ∧ RR X' S' := by
  have h0 := h
  obtain ⟨⟨P, t, ht, hJ, hR⟩, ⟨f, k, hf, hk, a1, a2, a3, a4⟩, h3, ⟨L, b0, b1, b2, b3⟩⟩ := h
  unfold f7_save f8_save
  rcases lb_slot (v := v) with ⟨d1, d2 | ⟨d2, d3⟩⟩ | ⟨s, hs, rfl, d1, d2, d3⟩
  · rw [if_pos d2, d1]; exact ⟨_, X, S, rfl, rfl, h0⟩
  · rw [if_neg d2, if_pos d3, d1]; exact ⟨_, X, S, rfl, rfl, h0⟩
  · have m7 : (107 : Int32) * nI s = nI (107 * s) := lb_mul 107 s
    rw [if_neg d2, if_neg d3, d1, lb_bd, if_neg (show ¬ (1 : Int32) = 0 by decide), m7, show f8_moves 107 214 (S 0) 0 (nI (107 * s)) (S 3) = some (mb_mv (S 0) 0 (107 * s) (S 3)) from lb_mv (a := 0) (by omega) (by omega) (by omega) (by omega), lb_bd, lb_ck hs (by omega), lb_k6, lb_c6, lb_cl (by omega)]
    have e0 : ms_set (ms_set S 3 (mb_mv (S 0) 0 (107 * s) (S 3))) 4 (upd (ms_set S 3 (mb_mv (S 0) 0 (107 * s) (S 3)) 4) s 1) 0 = S 0 := by rw [lb_mn (by omega), lb_mn (by omega)]
    rw [e0]
    have ep : f0_players (X 5) = some (S 0 6) := by unfold f0_players; rw [hR.z.1]
    have gen : ∀ X' : xs_T, (∀ g, g ≠ 1 → g ≠ 14 + s → X' g = X g) → mb_S (X' (14 + s)) (S 0) → X' 1 0 s ≠ 0 → (∀ i, i ≠ s → X' 1 0 i = X 1 0 i) → RR X' (ms_set (ms_set S 3 (mb_mv (S 0) 0 (107 * s) (S 3))) 4 (upd (ms_set S 3 (mb_mv (S 0) 0 (107 * s) (S 3)) 4) s 1)) := by
      intro X' e1 e2 e3 e4
      refine ⟨⟨P, t, ht, ?_, ?_⟩, ⟨f, k, hf, hk, ?_, ?_, ?_, ?_⟩, ?_, ⟨L, b0, ?_, ?_, ?_⟩⟩
      · rw [e0]; exact hJ
      · rw [e0, e1 5 (by omega) (by omega)]; exact hR
      · rw [e1 2 (by omega) (by omega)]; exact a1
      · rw [e1 2 (by omega) (by omega)]; exact a2
      · rw [lb_mn (by omega), lb_mn (by omega)]; exact a3
      · intro j hj
        rw [e1 _ (by omega) (by omega), lb_mn (by omega), lb_mn (by omega)]; exact a4 j hj
      · intro s' hs'
        rw [lb_mn (show (3 : Nat) ≠ 4 by decide), lb_ms, lb_ms]
        by_cases es : s' = s
        · subst es
          right
          refine ⟨e3, by rw [lb_us]; decide, e2.congr (fun i hi => ?_)⟩
          rw [lb_mvI hi, Nat.zero_add]
        · rw [e4 s' es, lb_un es, lb_mn (show (4 : Nat) ≠ 3 by decide), e1 (14 + s') (by omega) (by omega)]
          rcases h3 s' hs' with q | ⟨q1, q2, q3⟩
          · exact Or.inl q
          · refine Or.inr ⟨q1, q2, q3.congr (fun i hi => ?_)⟩
            unfold mb_mv
            rw [if_neg (by omega)]
      · rw [e1 3 (by omega) (by omega)]; exact b1
      · rw [lb_mn (by omega), lb_mn (by omega)]; exact b2
      · intro i hi
        rw [e1 3 (by omega) (by omega), lb_mn (by omega), lb_mn (by omega)]; exact b3 i hi
    have s0 : mb_S (X 5) (S 0) := ⟨P, t, ht, hJ, hR⟩
    by_cases c : X 1 0 s = 0
    · obtain ⟨q, hq, hq2⟩ := lb_copyB (S := bd_0) hR
      rw [if_pos c, hq, lb_bd, ep, lb_bd]
      refine ⟨_, _, _, rfl, rfl, gen _ ?_ ?_ ?_ ?_⟩
      · intro g h1 h2; rw [lb_xn h2, lb_xn h2, lb_xn h1]
      · rw [lb_xs]; exact ⟨P, t, ht, hJ, hq2⟩
      · rw [lb_xn (by omega), lb_xn (by omega), lb_xs, lb_ms, lb_us]; decide
      · intro i hi; rw [lb_xn (by omega), lb_xn (by omega), lb_xs, lb_ms, lb_un hi]
    · obtain ⟨q, hq, hq2⟩ := lb_copyB (S := X (14 + s)) hR
      rw [if_neg c, hq, lb_bd, ep, lb_bd]
      refine ⟨_, _, _, rfl, rfl, gen _ ?_ ?_ ?_ ?_⟩
      · intro g h1 h2; rw [lb_xn h2]
      · rw [lb_xs]; exact ⟨P, t, ht, hJ, hq2⟩
      · rw [lb_xn (by omega)]; exact c
      · intro i hi; rw [lb_xn (by omega)]
theorem lb_restore {X : xs_T} {S : ms_T} (h : RR X S) (v : Int32) : ∃ r X' S', f7_restore v X = some (r, X') ∧ f8_restore v S = some (r, S') ∧ RR X' S' := by
  have h0 := h
  unfold f7_restore f8_restore
  rcases lb_slot (v := v) with ⟨d1, d2 | ⟨d2, d3⟩⟩ | ⟨s, hs, rfl, d1, d2, d3⟩
  · rw [if_pos d2, d1]; exact ⟨_, X, S, rfl, rfl, h0⟩
  · rw [if_neg d2, if_pos d3, d1]; exact ⟨_, X, S, rfl, rfl, h0⟩
  · rw [if_neg d2, if_neg d3, d1, lb_bd, if_neg (show ¬ (1 : Int32) = 0 by decide), lb_ck hs (by omega), lb_cl (by omega)]
    rcases h.2.2.1 s hs with ⟨c1, c2⟩ | ⟨c1, c2, P, t, ht, hJ, hR⟩
    · rw [if_pos c1, if_pos c2]; exact ⟨_, X, S, rfl, rfl, h0⟩
    · rw [if_neg c1, if_neg c2]
      obtain ⟨f, B, hf, e, s1, s2, s3⟩ := lb_stage h
      obtain ⟨q, hq, hq2⟩ := lb_copyB (S := X 5) hR
      have m7 : (107 : Int32) * nI s = nI (107 * s) := lb_mul 107 s
      have hS' : mb_S q (mb_mv (S 3) (107 * s) 0 (S 0)) := by
        refine ⟨P, t, ht, hJ.congr (fun i hi => ?_), hq2.congr (fun i hi => ?_)⟩
        · have := lb_mvI (F := S 3) (S := S 0) (a := 107 * s) (b := 0) hi
          rw [Nat.zero_add] at this
          exact this
        · have := lb_mvI (F := S 3) (S := S 0) (a := 107 * s) (b := 0) hi
          rw [Nat.zero_add] at this
          exact this
      obtain ⟨q2, S', k1, k2, k3, k5, -, k4⟩ := h.keep hf e s2 hS'
      have e14 : xs_set X (7 + f) B (14 + s) = X (14 + s) := lb_xn (by omega)
      have e5 : xs_set X (7 + f) B 5 = X 5 := lb_xn (by omega)
      have hz := hq2.z.1
      have hv : ¬ q 12 0 < 0 := by rw [hz, show S 3 (107 * s + 6) = nI P from hJ.h6]; exact nI_pos (by have := hJ.P4; omega)
      rw [s1, lb_bd, s3, e14, e5, hq, lb_bd, lb_xs]
      unfold f0_players f7_changed
      rw [lb_bd, if_neg hv, k1, lb_bd, k2, lb_bd, k5 3 (by omega) (by omega), k3, m7, show f8_moves 214 107 (S 3) (nI (107 * s)) 0 (S 0) = some (mb_mv (S 3) (107 * s) 0 (S 0)) from lb_mv (b := 0) (by omega) (by omega) (by omega) (by omega), lb_bd, lb_k6, lb_c6, lb_ms]
      refine ⟨_, _, _, rfl, ?_, k4⟩
      congr 2
      have := lb_mvI (F := S 3) (S := S 0) (a := 107 * s) (b := 0) (j := 6) (by omega)
      rw [Nat.zero_add] at this
      rw [this, hz]
