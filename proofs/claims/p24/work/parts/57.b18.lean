/-! ## Layer B: a player comes; undo, saved states -/
theorem mb_J.come {P t : Nat} {T : Nat → Int32} (h : mb_J P t T) (hP : P < 4) {n : Nat} (hn : n ≤ 9999) : mb_J (P + 1) t (upd (upd T (51 + 6 * P) (nI n)) 6 (nI (P + 1))) := by
  have e0 : (T (51 + 6 * P)).toInt = 0 := by rw [h.pz _ (by omega) (by omega)]; rfl
  have hps := h.ps
  have bB := h.bB
  have n0 : (nI n).toInt = n := nI_toInt (by omega)
  exact ⟨(by omega),
  (h.t9),
  (lb_us _ _ _),
  (by
    rw [lb_un (by omega), lb_un (by omega)]
    obtain ⟨m, h1, h2⟩ := h.h7
    exact ⟨m, h1, by omega⟩),
  (by rw [lb_un (by omega), lb_un (by omega)]; exact h.h5),
  (by rw [lb_un (by omega), lb_un (by omega)]; exact h.dr),
  (by rw [lb_un (by omega), lb_un (by omega)]; exact h.wg),
  (by rw [lb_un (by omega), lb_un (by omega)]; exact h.pr),
  (by rw [lb_un (by omega), lb_un (by omega)]; exact h.tl),
  (by rw [lb_un (by omega), lb_un (by omega)]; exact h.cl),
  (by rw [lb_un (by omega), lb_un (by omega)]; exact h.du),
  (fun s hs => by
    rw [lb_un (by omega), lb_un (by omega)]
    rcases h.fo s hs with a | ⟨q, b, c⟩
    · exact Or.inl a
    · exact Or.inr ⟨q, by omega, c⟩),
  (fun s hs => by rw [lb_un (by omega), lb_un (by omega)]; exact h.fi s hs),
  (fun s hs => by
    rw [lb_un (by omega), lb_un (by omega), lb_un (by omega), lb_un (by omega)]
    rcases h.se s hs with a | ⟨a, ⟨q, b, c⟩, d⟩
    · exact Or.inl a
    · exact Or.inr ⟨a, ⟨q, by omega, c⟩, d⟩),
  (fun s hs => by rw [lb_un (by omega), lb_un (by omega)]; exact h.pl s hs),
  (fun s hs => by rw [lb_un (by omega), lb_un (by omega)]; exact h.co s hs),
  (fun p q hp hq e => by rw [lb_un (by omega), lb_un (by omega)]; exact h.cz p q hp hq (by omega)),
  (fun s hs => by rw [lb_un (by omega), lb_un (by omega), lb_un (by omega), lb_un (by omega)]; exact h.az s hs),
  (fun s hs => by rw [lb_un (by omega), lb_un (by omega)]; exact h.ag s hs),
  (fun s hs => by
    rw [lb_un (by omega)]
    by_cases e : s = P
    · rw [lb_ue (by omega)]; omega
    · rw [lb_un (by omega)]; exact h.pu s hs),
  (by rw [lb_sumN (by omega), lb_sumU hP, e0, n0]; omega),
  (fun i h1 h2 => by rw [lb_un (by omega), lb_un (by omega)]; exact h.pz i (by omega) h2),
  (by omega),
  (h.bC),
  (h.bA)⟩
theorem lb_comes {T : Nat → Int32} {P : Nat} (h6 : T 6 = nI P) (hP : P < 4) (pz : ∀ i, 51 + 6 * P ≤ i → i < 75 → T i = 0) (v : Int32) : f8_comes v T = some (nI P, upd (upd T (51 + 6 * P) v) 6 (nI (P + 1))) := by
  have ix : ∀ k, ((51 : Int32) + 6 * nI P + nI k) = nI (51 + 6 * P + k) := fun k => by
    rw [show (51 : Int32) = nI 51 from rfl, show (6 : Int32) = nI 6 from rfl, lb_mul, lb_add, lb_add]
  have L : ∀ (r k n : Nat) (U : Nat → Int32), k + r = 6 → r < n → 1 ≤ k → U 6 = nI P → (∀ i, 51 + 6 * P + 1 ≤ i → i < 75 → U i = 0) → f8_comes_L10 n v (nI P) (nI k) U = some (nI P, upd U 6 (nI (P + 1))) := by
    intro r
    induction r with
    | zero =>
      intro k n U hk hn h1 hU hz
      obtain ⟨n, rfl⟩ : ∃ n', n = n' + 1 := ⟨n - 1, by omega⟩
      show f8_comes_b10 _ v (nI P) (nI k) U = _
      unfold f8_comes_b10
      rw [if_pos (show (6 : Int32) ≤ nI k from nI_le (a := 6) (by omega) (by omega)), lb_k6, lb_k6, lb_c6, hU, nI_succ]
    | succ r IH =>
      intro k n U hk hn h1 hU hz
      obtain ⟨n, rfl⟩ : ∃ n', n = n' + 1 := ⟨n - 1, by omega⟩
      show f8_comes_b10 (f8_comes_L10 n) v (nI P) (nI k) U = _
      unfold f8_comes_b10 f8_comes_b38
      have hs : nI k + 1 = nI (k + 1) := (nI_succ k).symm
      rw [if_neg (show ¬ (6 : Int32) ≤ nI k from nI_ge (b := 6) (by omega) (by omega)), if_neg (nI_ne0 (by omega) (by omega)), ix, lb_ck (by omega) (by omega), lb_cl (by omega), hs, lb_ui' (hz _ (by omega) (by omega)).symm]
      exact IH (k + 1) n U (by omega) (by omega) (by omega) hU hz
  unfold f8_comes
  rw [lb_k6, lb_c6, h6]
  show f8_comes_b10 (f8_comes_L10 999) v (nI P) (nI 0) T = _
  unfold f8_comes_b10 f8_comes_b38
  rw [if_neg (show ¬ (6 : Int32) ≤ nI 0 by decide), if_pos (show nI 0 = 0 from rfl), ix, lb_ck (by omega) (by omega), lb_cl (by omega)]
  exact L 5 1 999 (upd T (51 + 6 * P) v) rfl (by omega) (by omega) (by rw [lb_un (by omega)]; exact h6) (fun i h1 h2 => by rw [lb_un (by omega)]; exact pz i (by omega) h2)
theorem lb_playerC {B : ms_T} {T : Nat → Int32} (h : mb_S B T) (v : Int32) : (∃ e : Int32, e < 0 ∧ f0_addPlayer v B = some (e, B) ∧ f8_whyNoPlayer v T = some e) ∨ (∃ r B' T', ¬ r < 0 ∧ f0_addPlayer v B = some (r, B') ∧ f8_whyNoPlayer v T = some 0 ∧ f8_comes v T = some (r, T') ∧ mb_S B' T') := by
  obtain ⟨P, t, ht, hJ, hR⟩ := h
  have hP := hJ.P4
  unfold f0_addPlayer f8_whyNoPlayer
  have hw : f8_within v (0 : Int32) (9999 : Int32) = f8_within v (nI 0) (nI 9999) := rfl
  rw [hw, lb_k6, lb_c6, hR.z.1, hJ.h6]
  rcases lb_within (v := v) (a := 0) (b := 9999) (by omega) (by omega) with ⟨d1, d2⟩ | ⟨d1, d2, d3, n, rfl, d4, d5⟩
  · left
    refine ⟨-2, by decide, ?_, by rw [d1]; rfl⟩
    by_cases k : v < 0
    · rw [if_pos k]
    · rw [if_neg k, if_neg]
      rcases d2 with d2 | d2
      · exact absurd d2 k
      · exact d2
  · rw [if_neg (show ¬ nI n < (0 : Int32) from d2), if_pos (show nI n ≤ (9999 : Int32) from d3), d1, lb_bd, if_neg (show ¬ (1 : Int32) = 0 by decide)]
    by_cases k4 : P = 4
    · subst k4
      exact Or.inl ⟨-4, by decide, rfl, rfl⟩
    · have k5 : nI P < (4 : Int32) := nI_lt (b := 4) (by omega) (by omega)
      have k6 : ¬ nI P = (4 : Int32) := fun e => k4 ((lb_inj (b := 4) (by omega) (by omega)).mp e)
      rw [if_pos k5, if_neg k6, lb_write (by omega) (by omega), lb_bd]
      right
      have r1 := hR.setP (k := 0) (i := P) (by omega) (by omega) (nI n)
      have r2 := r1.setZ (i := 0) (by omega) (nI (P + 1))
      have z0 : ms_set B 6 (upd (B 6) P (nI n)) 12 0 = nI P := by
        have := r1.z.1
        rw [this, lb_un (by omega), hJ.h6]
      refine ⟨nI P, _, _, nI_pos (by omega), ?_, rfl, lb_comes hJ.h6 (by omega) hJ.pz _, P + 1, t, ht, hJ.come (by omega) d5, r2⟩
      have hs : nI P + 1 = nI (P + 1) := (nI_succ P).symm
      rw [z0, lb_ms, lb_us, hs, lb_sub1]
theorem lb_player {X : xs_T} {S : ms_T} (h : RR X S) (v : Int32) : ∃ r X' S', f7_player v X = some (r, X') ∧ f8_player v S = some (r, S') ∧ RR X' S' := by
  refine lb_change h (k7 := fun B => f0_addPlayer v B) (k8 := f8_player v) ?_
  rcases lb_playerC h.1 v with ⟨e, a0, a1, a2⟩ | ⟨r, B', T', a0, a1, a2, a3, a4⟩
  · refine Or.inl ⟨e, a0, a1, ?_⟩
    unfold f8_player
    rw [a2, lb_bd, if_neg (by rw [lb_nle]; exact a0)]
  · refine Or.inr ⟨r, B', T', a0, a1, a4, ?_⟩
    intro S' e1 e2
    unfold f8_player
    rw [a2, lb_bd, if_pos (by decide), e1, lb_bd, e2, a3]; rfl
theorem lb_slot {v : Int32} : (f8_within v 0 1 = some 0 ∧ (v < 0 ∨ ¬ v < 0 ∧ (2 : Int32) ≤ v)) ∨ (∃ s, s < 2 ∧ v = nI s ∧ f8_within v 0 1 = some 1 ∧ ¬ v < 0 ∧ ¬ (2 : Int32) ≤ v) := by
  have hw : f8_within v (0 : Int32) (1 : Int32) = f8_within v (nI 0) (nI 1) := rfl
  rw [hw]
  rcases lb_within (v := v) (a := 0) (b := 1) (by omega) (by omega) with ⟨d1, d2⟩ | ⟨d1, d2, d3, n, rfl, d4, d5⟩
  · left
    refine ⟨d1, ?_⟩
    by_cases k : v < 0
    · exact Or.inl k
    · refine Or.inr ⟨k, ?_⟩
      rcases d2 with d2 | d2
      · exact absurd d2 k
      · rw [lb_le, nI_toInt (by omega)] at d2
        rw [show (2 : Int32) = nI 2 from rfl, lb_le, nI_toInt (by omega)]
        omega
  · exact Or.inr ⟨n, by omega, rfl, d1, d2, nI_ge (b := 2) (by omega) (by omega)⟩