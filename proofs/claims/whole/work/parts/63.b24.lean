/-! ## Layer B: characters are put on the pad -/
def mb_sh (r : Int64) : Int64 := (r.toUInt64 >>> ((8 : Int32).toInt64.toUInt64 &&& Int64.toUInt64 63)).toInt64
theorem lb_sh (r : Int64) : (mb_sh r).toUInt64.toNat = r.toUInt64.toNat / 256 := by
  have e : ((8 : Int32).toInt64.toUInt64 &&& Int64.toUInt64 63) = 8 := by decide
  unfold mb_sh
  rw [e]
  rw [show ∀ u : UInt64, u.toInt64.toUInt64 = u from fun u => rfl, UInt64.toNat_shiftRight]
  rw [show (8 : UInt64).toNat % 64 = 8 from rfl, Nat.shiftRight_eq_div_pow]
theorem lb_lg {x : Int64} : lg_cmp x 0 = 0 ↔ x = 0 := by
  unfold lg_cmp
  by_cases h1 : x > 0
  · rw [if_pos h1]
    refine ⟨fun h => absurd h (by decide), fun h => ?_⟩
    subst h; exact absurd h1 (by decide)
  · rw [if_neg h1]
    by_cases h2 : x = 0
    · rw [if_pos h2]; exact ⟨fun _ => h2, fun _ => rfl⟩
    · rw [if_neg h2]; exact ⟨fun h => absurd h (by decide), fun h => absurd h h2⟩
theorem lb_u0 {x : Int64} (h : x.toUInt64.toNat = 0) : x = 0 := by
  have h1 : x.toUInt64 = 0 := UInt64.toNat.inj h
  have h2 : x.toUInt64.toInt64 = (0 : UInt64).toInt64 := by rw [h1]
  exact h2
/-- a number that is not as it has to be -/
theorem lb_putBad {v : Int64} {S : ms_T} : ∀ (r i n : Nat) (rest : Int64), i + r = 8 → r < n → f8_put_L8 n v (nI i) rest 0 S = some (-2, S)
  | _, _, 0, _, _, h => by omega
  | r, i, n + 1, rest, hi, hn => by
    have fin : f8_put_b67 v (nI i) rest 0 S = some (-2, S) := by
      unfold f8_put_b67
      split
      · rfl
      · rw [if_pos rfl]
    show f8_put_b8 (f8_put_L8 n) v (nI i) rest 0 S = _
    unfold f8_put_b8 f8_put_b51 f8_put_b52
    by_cases h8 : i = 8
    · subst h8; rw [if_pos (show (8 : Int32) ≤ nI 8 by decide)]; exact fin
    · rw [if_neg (show ¬ (8 : Int32) ≤ nI i from nI_ge (b := 8) (by omega) (by omega))]
      have hs : nI i + (1 : Int32) = nI (i + 1) := (nI_succ i).symm
      split
      · exact fin
      · rw [if_pos rfl, hs]
        exact lb_putBad (r - 1) (i + 1) n _ (by omega) (by omega)
/-- what both sides make of the number -/
theorem lb_putL {v : Int64} {S : ms_T} : ∀ (r i n m : Nat) (rest : Int64), i + r = 8 → r < n → r < m → rest.toUInt64.toNat < 256 ^ r →
    ∃ k, k ≤ 8 ∧ f4_signsIn_L8 n rest (nI i) (nI i) = some (nI k) ∧ f8_put_L8 m v (nI i) rest 1 S = if k = 0 then some (-2, S) else if (S 8 1) + nI k ≤ (80 : Int32) then f8_put_L105 fo_fu v (nI k - 1) S else some (-4, S)
  | _, _, 0, _, _, _, h, _, _ => by omega
  | _, _, _, 0, _, _, _, h, _ => by omega
  | r, i, n + 1, m + 1, rest, hi, hn, hm, hb => by
    have e4 : f4_signsIn_L8 (n + 1) rest (nI i) (nI i) = f4_signsIn_b8 (f4_signsIn_L8 n) rest (nI i) (nI i) := rfl
    have e8 : f8_put_L8 (m + 1) v (nI i) rest 1 S = f8_put_b8 (f8_put_L8 m) v (nI i) rest 1 S := rfl
    rw [e4, e8]
    unfold f4_signsIn_b8 f8_put_b8 f8_put_b51 f8_put_b52
    have ei : nI i = 0 ↔ i = 0 := lb_inj (b := 0) (by omega) (by omega)
    have good : rest = 0 → f8_put_b67 v (nI i) rest 1 S = if i = 0 then some (-2, S) else if (S 8 1) + nI i ≤ (80 : Int32) then f8_put_L105 fo_fu v (nI i - 1) S else some (-4, S) := by
      intro h
      unfold f8_put_b67
      by_cases h0 : i = 0
      · rw [if_pos (ei.mpr h0), if_pos h0]
      · rw [if_neg (fun e => h0 (ei.mp e)), if_neg h0, if_neg (show ¬ (1 : Int32) = 0 by decide), if_pos (lb_lg.mpr h)]
    by_cases h8 : i = 8
    · subst h8
      have hr : r = 0 := by omega
      subst hr
      refine ⟨8, by omega, ?_, ?_⟩
      · rw [if_pos (show (8 : Int32) ≤ nI 8 by decide)]
      · rw [if_pos (show (8 : Int32) ≤ nI 8 by decide)]
        exact good (lb_u0 (by simpa using hb))
    · have h8' : ¬ (8 : Int32) ≤ nI i := nI_ge (b := 8) (by omega) (by omega)
      have hs : nI i + (1 : Int32) = nI (i + 1) := (nI_succ i).symm
      rw [if_neg h8', if_neg h8']
      by_cases h0 : rest = 0
      · refine ⟨i, by omega, ?_, ?_⟩
        · rw [if_pos (lb_lg.mpr h0)]
        · rw [if_pos (lb_lg.mpr (by rw [h0]; decide))]
          exact good h0
      · rw [if_neg (fun e => h0 (lb_lg.mp e))]
        by_cases hl : (rest &&& (255 : Int64)) = 0
        · refine ⟨0, by omega, ?_, ?_⟩
          · rw [if_pos (by rw [hl]; decide)]; rfl
          · rw [if_pos (lb_lg.mpr hl), if_pos rfl]
            unfold f8_put_b67
            split
            · rfl
            · rw [if_neg (show ¬ (1 : Int32) = 0 by decide), if_neg (fun e => h0 (lb_lg.mp e))]
        · rw [if_neg (fun e => hl (lb_lg.mp e)), if_neg (show ¬ (1 : Int32) = 0 by decide), hs]
          have hw : f8_within ((rest &&& (255 : Int64)).toInt32) (33 : Int32) (126 : Int32) = f8_within ((rest &&& (255 : Int64)).toInt32) (nI 33) (nI 126) := rfl
          rw [hw]
          have hsh : ((rest.toUInt64 >>> ((8 : Int32).toInt64.toUInt64 &&& Int64.toUInt64 63)).toInt64) = mb_sh rest := rfl
          rw [hsh]
          rcases lb_within (v := (rest &&& (255 : Int64)).toInt32) (a := 33) (b := 126) (by omega) (by omega) with ⟨d1, d2⟩ | ⟨d1, d2, d3, -⟩
          · refine ⟨0, by omega, ?_, ?_⟩
            · by_cases k : (rest &&& (255 : Int64)).toInt32 < 33
              · rw [if_pos k]; rfl
              · rw [if_neg k, if_neg]
                · rfl
                · rcases d2 with d2 | d2
                  · exact absurd d2 k
                  · exact d2
            · rw [d1, lb_bd, if_pos rfl, if_pos rfl]
              exact lb_putBad (r - 1) (i + 1) m _ (by omega) (by omega)
          · rw [if_neg (show ¬ (rest &&& (255 : Int64)).toInt32 < 33 from d2), if_pos (show (rest &&& (255 : Int64)).toInt32 ≤ 126 from d3), d1, lb_bd, if_neg (show ¬ (1 : Int32) = 0 by decide)]
            obtain ⟨r, rfl⟩ : ∃ r', r = r' + 1 := ⟨r - 1, by omega⟩
            exact lb_putL r (i + 1) n m (mb_sh rest) (by omega) (by omega) (by omega) (by
              rw [lb_sh, Nat.div_lt_iff_lt_mul (by omega)]
              rw [Nat.pow_succ] at hb
              exact hb)
/-- where only the pad changes -/
theorem RR.pad {X X' : xs_T} {S S' : ms_T} (h : RR X S) (eX : ∀ g, g ≠ 3 → X' g = X g) (eS : ∀ g, g ≠ 5 → g ≠ 6 → g ≠ 7 → g ≠ 8 → S' g = S g) (e8 : S' 8 0 = S 8 0) (hD : mb_D X' S') : RR X' S' := by
  obtain ⟨⟨P, t, ht, hJ, hR⟩, ⟨f, k, hf, hk, a1, a2, a3, a4⟩, h3, -⟩ := h
  refine ⟨⟨P, t, ht, ?_, ?_⟩, ⟨f, k, hf, hk, ?_, ?_, ?_, ?_⟩, ?_, hD⟩
  · rw [eS 0 (by omega) (by omega) (by omega) (by omega)]; exact hJ
  · rw [eX 5 (by omega), eS 0 (by omega) (by omega) (by omega) (by omega)]; exact hR
  · rw [eX 2 (by omega)]; exact a1
  · rw [eX 2 (by omega)]; exact a2
  · rw [e8]; exact a3
  · intro j hj
    rw [eX _ (by omega), eS 2 (by omega) (by omega) (by omega) (by omega)]; exact a4 j hj
  · intro s hs
    rw [eX 1 (by omega), eX (14 + s) (by omega), eS 3 (by omega) (by omega) (by omega) (by omega), eS 4 (by omega) (by omega) (by omega) (by omega)]; exact h3 s hs
theorem lb_putA {v : Int64} : ∀ (k n m L : Nat) (X : xs_T) (S : ms_T), k < n → k < m → L + k ≤ 80 → k < 100 → X 3 1 0 = nI L → S 8 1 = nI L → (∀ i, i < L → X 3 0 i = S 5 i) →
    ∃ X' S', f7_put_L34 n v (nI k - 1) X = some (nI (L + k), X') ∧ f8_put_L105 m v (nI k - 1) S = some (nI (L + k), S') ∧ (∀ g, g ≠ 3 → X' g = X g) ∧ (∀ g, g ≠ 5 → g ≠ 8 → S' g = S g) ∧ (∀ i, i ≠ 1 → S' 8 i = S 8 i) ∧ mb_D X' S'
  | _, 0, _, _, _, _, h, _, _, _, _, _, _ => by omega
  | _, _, 0, _, _, _, _, h, _, _, _, _, _ => by omega
  | 0, n + 1, m + 1, L, X, S, hn, hm, hL, hk, a1, a2, a3 => by
    refine ⟨X, S, ?_, ?_, fun _ _ => rfl, fun _ _ _ => rfl, fun _ _ => rfl, ⟨L, by omega, a1, a2, a3⟩⟩
    · show f7_put_b34 _ v (nI 0 - 1) X = _
      unfold f7_put_b34 f3_length
      rw [if_pos (show nI 0 - 1 < 0 by decide), lb_bd, a1]; rfl
    · show f8_put_b105 _ v (nI 0 - 1) S = _
      unfold f8_put_b105
      rw [if_pos (show nI 0 - 1 < 0 by decide), a2]; rfl
  | k + 1, n + 1, m + 1, L, X, S, hn, hm, hL, hk, a1, a2, a3 => by
    have em : ∀ k, nI k + -1 = nI k - 1 := fun k => Int32.sub_eq_add_neg (nI k) 1 ▸ rfl
    have hs : nI L + (1 : Int32) = nI (L + 1) := (nI_succ L).symm
    have hL80 : ¬ nI 80 ≤ nI L := nI_ge (by omega) (by omega)
    rw [lb_sub1]
    show ∃ X' S', f7_put_b34 (f7_put_L34 n) v (nI k) X = _ ∧ f8_put_b105 (f8_put_L105 m) v (nI k) S = _ ∧ _
    unfold f7_put_b34 f8_put_b105 f4_signOf f3_append
    rw [if_neg (nI_pos (by omega)), if_neg (nI_pos (by omega)), lb_bd, a1, a2, if_neg hL80, lb_write (by omega) (by omega), lb_bd, lb_bd, lb_ck (by omega) (by omega), lb_cl (by omega), em]
    generalize ((((v.toUInt64 >>> (((8 : Int32) * nI k).toInt64.toUInt64 &&& Int64.toUInt64 63)).toInt64) &&& (255 : Int64)).toInt32) = z
    have e3 : ms_set (X 3) 0 (upd (X 3 0) L z) 1 = X 3 1 := lb_mn (by decide)
    have e8 : ms_set S 5 (upd (S 5) L z) 8 = S 8 := lb_mn (by decide)
    rw [e3, e8, a1, a2, hs]
    obtain ⟨X', S', u1, u2, u3, u4, u5, u6⟩ := lb_putA (v := v) k n m (L + 1) (xs_set X 3 (ms_set (ms_set (X 3) 0 (upd (X 3 0) L z)) 1 (upd (X 3 1) 0 (nI (L + 1))))) (ms_set (ms_set S 5 (upd (S 5) L z)) 8 (upd (S 8) 1 (nI (L + 1)))) (by omega) (by omega) (by omega) (by omega) (by rw [lb_xs, lb_ms, lb_us]) (by rw [lb_ms, lb_us]) (by
      intro i hi
      rw [lb_xs, lb_mn (show (0 : Nat) ≠ 1 by decide), lb_ms, lb_mn (show (5 : Nat) ≠ 8 by decide), lb_ms]
      by_cases e : i = L
      · subst e; rw [lb_us, lb_us]
      · rw [lb_un e, lb_un e]; exact a3 i (by omega))
    refine ⟨X', S', ?_, ?_, ?_, ?_, ?_, u6⟩
    · rw [u1, show L + 1 + k = L + (k + 1) by omega]
    · rw [u2, show L + 1 + k = L + (k + 1) by omega]
    · intro g hg; rw [u3 g hg, lb_xn hg]
    · intro g h5 h8; rw [u4 g h5 h8, lb_mn h8, lb_mn h5]
    · intro i hi; rw [u5 i hi, lb_ms, lb_un hi]
theorem lb_put {X : xs_T} {S : ms_T} (h : RR X S) (v : Int64) : ∃ r X' S', f7_put v X = some (r, X') ∧ f8_put v S = some (r, S') ∧ RR X' S' := by
  have h0 := h
  obtain ⟨-, -, -, ⟨L, b0, b1, b2, b3⟩⟩ := h
  obtain ⟨k, k8, u1, u2⟩ := lb_putL (v := v) (S := S) 8 0 1000 1000 v rfl (by omega) (by omega) (by have := v.toUInt64.toNat_lt; omega)
  have u1' : f4_signsIn v = some (nI k) := u1
  have u2' : f8_put v S = _ := u2
  unfold f7_put
  rw [u1', u2', lb_bd, b2]
  unfold f3_length
  rw [b1, lb_bd]
  by_cases k0 : k = 0
  · subst k0
    rw [if_pos (show nI 0 = 0 from rfl), if_pos rfl]
    exact ⟨_, X, S, rfl, rfl, h0⟩
  · rw [if_neg (show ¬ nI k = 0 from nI_ne0 (by omega) (by omega)), if_neg k0, lb_add]
    by_cases c : L + k ≤ 80
    · have c' : nI (L + k) ≤ (80 : Int32) := nI_le (b := 80) c (by omega)
      rw [if_pos c', if_pos c']
      obtain ⟨X', S', w1, w2, w3, w4, w5, w6⟩ := lb_putA (v := v) k 1000 1000 L X S (by omega) (by omega) c (by omega) b1 b2 b3
      exact ⟨_, X', S', w1, w2, h0.pad w3 (fun g a _ _ d => w4 g a d) (w5 0 (by omega)) w6⟩
    · have c' : ¬ nI (L + k) ≤ (80 : Int32) := nI_ge (b := L + k) (a := 80) (by omega) (by omega)
      rw [if_neg c', if_neg c']
      exact ⟨_, X, S, rfl, rfl, h0⟩
theorem lb_wipe {X : xs_T} {S : ms_T} (h : RR X S) : ∃ r X' S', f7_wipe X = some (r, X') ∧ f8_wipe S = some (r, S') ∧ RR X' S' := by
  have h0 := h
  obtain ⟨-, -, -, ⟨L, b0, b1, b2, b3⟩⟩ := h
  unfold f7_wipe f8_wipe f3_length f3_makeEmpty
  rw [lb_bd, lb_bd, b1, b2]
  refine ⟨_, _, _, rfl, rfl, h0.pad (fun g hg => lb_xn hg) (fun g _ _ _ h8 => lb_mn h8) ?_ ⟨0, by omega, ?_, ?_, fun i hi => by omega⟩⟩
  · rw [lb_ms, lb_un (by omega)]
  · rw [lb_xs, lb_ms, lb_us]; rfl
  · rw [lb_ms, lb_us]; rfl
