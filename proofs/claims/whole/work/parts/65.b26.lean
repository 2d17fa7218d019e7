/-! ## Layer B: the calls fault and carryOut -/
theorem lb_dueL {c : Int32} : f4_dueBehind 0 c = some (if c = 112 then 1 else if c = 116 then 1 else if c = 120 then 1 else if c = 99 then 2 else -1) := by
  unfold f4_dueBehind f4_dueBehindLetter
  rw [if_pos rfl]
  simp only [lb_ifs, lb_bd]
theorem lb_due1 {c : Int32} : f4_dueBehind 1 c = some (if mb_dg c then (if c = 48 then 3 else 6) else -1) := by
  unfold f4_dueBehind f4_dueBehind_b22
  rcases lb_isDig c with ⟨h, e⟩ | ⟨h, e⟩
  · rw [if_neg (show ¬ (1 : Int32) = 0 by decide), if_pos (show (1 : Int32) < 3 by decide), e, lb_bd, if_neg (show ¬ (1 : Int32) = 0 by decide), if_neg (show ¬ (1 : Int32) = 3 by decide), if_pos (show (1 : Int32) = 1 from rfl), if_pos h]
    simp only [lb_ifs]
  · rw [if_neg (show ¬ (1 : Int32) = 0 by decide), if_pos (show (1 : Int32) < 3 by decide), e, lb_bd, if_pos (show (0 : Int32) = 0 from rfl), if_neg h]
theorem lb_due2 {c : Int32} : f4_dueBehind 2 c = some (if mb_dg c then 3 else -1) := by
  unfold f4_dueBehind f4_dueBehind_b22
  rcases lb_isDig c with ⟨h, e⟩ | ⟨h, e⟩
  · rw [if_neg (show ¬ (2 : Int32) = 0 by decide), if_pos (show (2 : Int32) < 3 by decide), e, lb_bd, if_neg (show ¬ (1 : Int32) = 0 by decide), if_neg (show ¬ (2 : Int32) = 3 by decide), if_neg (show ¬ (2 : Int32) = 1 by decide), if_pos (show (2 : Int32) = 2 from rfl), if_pos h]
  · rw [if_neg (show ¬ (2 : Int32) = 0 by decide), if_pos (show (2 : Int32) < 3 by decide), e, lb_bd, if_pos (show (0 : Int32) = 0 from rfl), if_neg h]
abbrev mb_lt (c : Int32) : Prop := c = 99 ∨ c = 112 ∨ c = 116 ∨ c = 120
abbrev mb_ok (Z : ms_T) (C : Nat → Int32) (L a : Nat) (S : ms_T) (a' num' : Nat) (due' : Int32) (S' : ms_T) (k : Nat) : Prop :=
  a' = a + k ∧ 2 ≤ k ∧ k ≤ 5 ∧ a' ≤ L ∧ a < L ∧ mb_lt (C a) ∧ (due' = 3 ∨ due' = 4 ∨ due' = 5 ∨ due' = 6) ∧ num' ≤ 9999 ∧ (a' < L → mb_dg (C a') → due' = 3) ∧ (∀ n, f4_firstFault_L4 80 (n + k) 0 (nI a) Z = f4_firstFault_L4 80 n due' (nI a') Z) ∧
  f8_readsOrder S = some (1, S') ∧ mb_S8 S S' ∧ S' 8 6 = nI a' ∧ S' 8 7 = C a ∧ S' 8 8 = nI num' ∧ ∀ (X : xs_T) n done l, mb_Z (X 3) C L → f7_carryOut_L38 (n + k) done l 0 1 (nI a) X = f7_carryOut_L38 n done (C a) (nI num') 1 (nI a') X
theorem lb_ord {Z : ms_T} {C : Nat → Int32} {L a : Nat} {S : ms_T} (hZ : mb_Z Z C L) (hM : mb_M S C L) (ha : a ≤ L) (h6 : S 8 6 = nI a) :
    (∃ e S', a ≤ e ∧ e ≤ L ∧ f8_readsOrder S = some (0, S') ∧ mb_S8 S S' ∧ S' 8 6 = nI e ∧ ∀ n, f4_firstFault_L4 80 (n + 2) 0 (nI a) Z = some (nI e)) ∨ ∃ a' num' due' S' k, mb_ok Z C L a S a' num' due' S' k := by
  have hL := hM.1
  have hs : nI a + (1 : Int32) = nI (a + 1) := (nI_succ a).symm
  -- the state behind the letter
  have base : ∀ ch : Int32, (if a < L then C a else -1) = ch → ∃ S1, S1 = ms_set (ms_set S 8 (upd (S 8) 7 ch)) 8 (upd ((ms_set S 8 (upd (S 8) 7 ch)) 8) 6 (nI (a + 1))) ∧ mb_S8 S S1 ∧ S1 8 6 = nI (a + 1) ∧ S1 8 7 = ch ∧ mb_M S1 C L ∧
      f8_readsOrder S = (if ch = 99 then (fo_bd (f8_takesNumber 10 S1) (fun q79 => (fo_zz q79.1 (some (q79.1, q79.2))))) else if ch = 112 then (fo_bd (f8_takesNumber 10000 S1) (fun q72 => (fo_zz q72.1 (some (q72.1, q72.2))))) else if ch = 116 then (fo_bd (f8_takesNumber 10000 S1) (fun q72 => (fo_zz q72.1 (some (q72.1, q72.2))))) else if ch = 120 then (fo_bd (f8_takesNumber 10000 S1) (fun q72 => (fo_zz q72.1 (some (q72.1, q72.2))))) else some (0, ms_set S1 8 (upd (S1 8) 6 (S1 8 6 - 1)))) := by
    intro ch hch
    refine ⟨_, rfl, ⟨?_, ?_⟩, ?_, ?_, ⟨hL, ?_, ?_⟩, ?_⟩
    · intro g hg; rw [lb_mn hg, lb_mn hg]
    · intro i hi; rw [lb_ms, lb_un (by omega), lb_ms, lb_un (by omega)]
    · rw [lb_ms, lb_us]
    · rw [lb_ms, lb_un (by omega), lb_ms, lb_us]
    · rw [lb_ms, lb_un (by omega), lb_ms, lb_un (by omega)]; exact hM.2.1
    · intro i hi; rw [lb_mn (by omega), lb_mn (by omega)]; exact hM.2.2 i hi
    · have e86 : ms_set S 8 (upd (S 8) 7 ch) 8 6 + (1 : Int32) = nI (a + 1) := by rw [lb_ms, lb_un (by omega), h6, hs]
      have e87 : ms_set (ms_set S 8 (upd (S 8) 7 ch)) 8 (upd ((ms_set S 8 (upd (S 8) 7 ch)) 8) 6 (nI (a + 1))) 8 7 = ch := by rw [lb_ms, lb_un (by omega), lb_ms, lb_us]
      unfold f8_readsOrder
      rw [h6, lb_chr hM (by omega), lb_bd, hch, e86, e87]
  by_cases hl : a < L ∧ mb_lt (C a)
  · obtain ⟨h1, h2⟩ := hl
    obtain ⟨S1, eS1, s1, s2, s3, s4, s5⟩ := base (C a) (by rw [if_pos h1])
    -- both kinds of numbers
    have key : ∀ B : Nat, (B = 10 ∨ B = 10000) → f8_readsOrder S = (fo_bd (f8_takesNumber (nI B) S1) (fun q79 => (fo_zz q79.1 (some (q79.1, q79.2))))) → (∀ n, f4_firstFault_L4 80 (n + 1) 0 (nI a) Z = f4_firstFault_L4 80 n (if B = 10 then 2 else 1) (nI (a + 1)) Z) →
        (∃ e S', a ≤ e ∧ e ≤ L ∧ f8_readsOrder S = some (0, S') ∧ mb_S8 S S' ∧ S' 8 6 = nI e ∧ ∀ n, f4_firstFault_L4 80 (n + 2) 0 (nI a) Z = some (nI e)) ∨ ∃ a' num' due' S' k, mb_ok Z C L a S a' num' due' S' k := by
      intro B hB hrd hff
      rcases lb_dig8 s4 (by omega) s2 with ⟨d1, d2, d3⟩ | ⟨d1, d2⟩
      · right
        obtain ⟨d, hd, hc⟩ := lb_dg d2
        have en : nI (48 + d) - (48 : Int32) = nI d := by rw [show (48 : Int32) = nI 48 from rfl, lb_sub (by omega)]; congr 1; omega
        have hs2 : nI (a + 1) + (1 : Int32) = nI (a + 2) := (nI_succ (a + 1)).symm
        have c48 : nI (48 + d) = 48 ↔ d = 0 := by
          show nI (48 + d) = nI 48 ↔ d = 0
          rw [lb_inj (by omega) (by omega)]; omega
        have hdue : f4_dueBehind (if B = 10 then 2 else 1) (C (a + 1)) = some (if B = 10 then 3 else if d = 0 then 3 else 6) := by
          rcases hB with rfl | rfl
          · rw [if_pos rfl, if_pos rfl, lb_due2, if_pos d2]
          · rw [if_neg (by omega), if_neg (by omega), lb_due1, if_pos d2, hc]
            by_cases e : d = 0
            · rw [if_pos (c48.mpr e), if_pos e]
            · rw [if_neg (fun h => e (c48.mp h)), if_neg e]
        have hrel : mb_rel B (if B = 10 then 3 else if d = 0 then 3 else 6) d 3 := by
          rcases hB with rfl | rfl
          · rw [if_pos rfl]
            exact Or.inl ⟨rfl, by omega, by omega⟩
          · rw [if_neg (by omega)]
            by_cases e : d = 0
            · rw [if_pos e]; exact Or.inl ⟨rfl, Or.inl e, by omega⟩
            · rw [if_neg e]; exact Or.inr ⟨rfl, Or.inl ⟨rfl, by omega, by omega, by omega⟩⟩
        have e86 : (ms_set S1 8 (upd (S1 8) 8 (nI d))) 8 6 = nI (a + 1) := by rw [lb_ms, lb_un (by omega)]; exact s2
        obtain ⟨a', num', due', S', k, u1, u2, u3, u4, u5, u6, u7, u8, u9, u10, u11, u12, u13⟩ := lb_numL hZ hB 3 (a + 2) d (if B = 10 then 3 else if d = 0 then 3 else 6) (ms_set (ms_set S1 8 (upd (S1 8) 8 (nI d))) 8 (upd ((ms_set S1 8 (upd (S1 8) 8 (nI d))) 8) 6 (nI (a + 2)))) (by omega) hrel ⟨hL, by rw [lb_ms, lb_un (by omega), lb_ms, lb_un (by omega)]; exact s4.2.1, fun i hi => by rw [lb_mn (by omega), lb_mn (by omega)]; exact s4.2.2 i hi⟩ (by rw [lb_ms, lb_us]) (by rw [lb_ms, lb_un (by omega), lb_ms, lb_us])
        refine ⟨a', num', due', S', k + 2, by omega, by omega, by omega, u3, h1, h2, u4, u5, u6, ?_, ?_, ⟨?_, ?_⟩, u10, ?_, u12, ?_⟩
        · intro n
          rw [show n + (k + 2) = (n + k + 1) + 1 by omega, hff, lb_ff hZ d1, hdue, lb_bd, if_neg ?_]
          · exact u7 n
          · rcases hB with rfl | rfl
            · rw [if_pos rfl]; decide
            · rw [if_neg (by omega)]; split <;> decide
        · rw [hrd]
          unfold f8_takesNumber
          rw [d3, lb_bd, if_neg (show ¬ (1 : Int32) = 0 by decide), s2, lb_chr s4 (by omega), lb_bd, if_pos d1, hc, en, e86, hs2]
          have := u8 (999 - k)
          rw [show 999 - k + k + 1 = 1000 by omega] at this
          rw [show f8_takesNumber_L34 fo_fu (nI B) _ = _ from this, lb_bd]
          show fo_zz (1 : Int32) (some ((1 : Int32), S')) = _
          unfold fo_zz; rw [if_pos (Or.inr rfl)]
        · intro g hg; rw [u9.1 g hg, lb_mn hg, lb_mn hg]; exact s1.1 g hg
        · intro i hi; rw [u9.2 i hi, lb_ms, lb_un (by omega), lb_ms, lb_un (by omega)]; exact s1.2 i hi
        · rw [u11, lb_ms, lb_un (by omega), lb_ms, lb_un (by omega)]; exact s3
        · intro X n done l hX
          have := lb_coD (n := n + k) (num := 0) (done := done) (l := C a) hX d1 hd hc
          rw [show 10 * 0 + d = d by omega] at this
          rw [show n + (k + 2) = (n + k + 1) + 1 by omega, lb_coL hX h1 h2]
          exact this.trans (u13 X n done (C a) hX)
      · left
        refine ⟨a + 1, S1, by omega, by omega, ?_, s1, s2, ?_⟩
        · rw [hrd]
          unfold f8_takesNumber
          rw [d2, lb_bd, if_pos rfl, lb_bd]
          show fo_zz (0 : Int32) (some ((0 : Int32), S1)) = _
          unfold fo_zz; rw [if_pos (Or.inl rfl)]
        · intro n
          rw [hff]
          by_cases e : a + 1 < L
          · have hnd : ¬ mb_dg (C (a + 1)) := fun h => d1 ⟨e, h⟩
            rw [lb_ff hZ e]
            rcases hB with rfl | rfl
            · rw [if_pos rfl, lb_due2, if_neg hnd, lb_bd, if_pos rfl]
            · rw [if_neg (by omega), lb_due1, if_neg hnd, lb_bd, if_pos rfl]
          · have e' : a + 1 = L := by omega
            rw [e', lb_ffE hZ, if_pos]
            rcases hB with rfl | rfl <;> decide
    rcases h2 with h2 | h2 | h2 | h2
    · refine key 10 (Or.inl rfl) ?_ ?_
      · rw [s5, h2, if_pos rfl]; rfl
      · intro n; rw [lb_ff hZ h1, lb_dueL, h2]; rfl
    · refine key 10000 (Or.inr rfl) ?_ ?_
      · rw [s5, h2, if_neg (by decide), if_pos rfl]; rfl
      · intro n; rw [lb_ff hZ h1, lb_dueL, h2]; rfl
    · refine key 10000 (Or.inr rfl) ?_ ?_
      · rw [s5, h2, if_neg (by decide), if_neg (by decide), if_pos rfl]; rfl
      · intro n; rw [lb_ff hZ h1, lb_dueL, h2]; rfl
    · refine key 10000 (Or.inr rfl) ?_ ?_
      · rw [s5, h2, if_neg (by decide), if_neg (by decide), if_neg (by decide), if_pos rfl]; rfl
      · intro n; rw [lb_ff hZ h1, lb_dueL, h2]; rfl
  · left
    have hch : ∀ ch, (if a < L then C a else -1) = ch → ¬ mb_lt ch := by
      intro ch h
      by_cases c : a < L
      · rw [if_pos c] at h; rw [← h]; exact fun hc => hl ⟨c, hc⟩
      · rw [if_neg c] at h; rw [← h]; rintro (h | h | h | h) <;> exact absurd h (by decide)
    obtain ⟨S1, eS1, s1, s2, s3, s4, s5⟩ := base _ rfl
    have hn := hch _ rfl
    generalize (if a < L then C a else -1) = ch at hn s3 s5
    refine ⟨a, ms_set S1 8 (upd (S1 8) 6 (nI a)), by omega, ha, ?_, ⟨?_, ?_⟩, ?_, ?_⟩
    · rw [s5, if_neg (fun h => hn (Or.inl h)), if_neg (fun h => hn (Or.inr (Or.inl h))), if_neg (fun h => hn (Or.inr (Or.inr (Or.inl h)))), if_neg (fun h => hn (Or.inr (Or.inr (Or.inr h)))), s2, lb_sub1]
    · intro g hg; rw [lb_mn hg]; exact s1.1 g hg
    · intro i hi; rw [lb_ms, lb_un (by omega)]; exact s1.2 i hi
    · rw [lb_ms, lb_us]
    · intro n
      by_cases c : a < L
      · have hc : ¬ mb_lt (C a) := fun h => hl ⟨c, h⟩
        rw [show n + 2 = (n + 1) + 1 by omega, lb_ff hZ c, lb_dueL, if_neg (fun h => hc (Or.inr (Or.inl h))), if_neg (fun h => hc (Or.inr (Or.inr (Or.inl h)))), if_neg (fun h => hc (Or.inr (Or.inr (Or.inr h)))), if_neg (fun h => hc (Or.inl h)), lb_bd, if_pos rfl]
      · have e : a = L := by omega
        subst e
        rw [show n + 2 = (n + 1) + 1 by omega, lb_ffE hZ, if_pos (by decide)]
/-- behind an order -/
theorem lb_ordE {Z : ms_T} {C : Nat → Int32} {L a' n : Nat} {due' : Int32} (hZ : mb_Z Z C L) (ha : a' ≤ L) (hd : due' = 3 ∨ due' = 4 ∨ due' = 5 ∨ due' = 6) (hst : a' < L → mb_dg (C a') → due' = 3) : f4_firstFault_L4 80 (n + 1) due' (nI a') Z = if a' = L then some (-6) else if C a' = 59 then f4_firstFault_L4 80 n 0 (nI (a' + 1)) Z else some (nI a') := by
  by_cases e : a' = L
  · rw [e, if_pos rfl, lb_ffE hZ, if_neg]
    rcases hd with h | h | h | h <;> rw [h] <;> decide
  · rw [if_neg e, lb_ff hZ (by omega)]
    by_cases hg : mb_dg (C a')
    · have h59 : ¬ C a' = 59 := by
        intro h; rw [h] at hg; exact absurd hg.2 (by decide)
      rw [lb_dueD hd hg, if_pos (hst (by omega) hg), lb_bd, if_pos rfl, if_neg h59]
    · rw [lb_dueN hd hg]
      by_cases h59 : C a' = 59
      · rw [if_pos h59, if_pos h59, lb_bd, if_neg (by decide)]
      · rw [if_neg h59, if_neg h59, lb_bd, if_pos rfl]
theorem lb_faultL {Z : ms_T} {C : Nat → Int32} {L : Nat} (hZ : mb_Z Z C L) : ∀ (w a n m : Nat) (S : ms_T), L - a < w → a ≤ L → L - a + 10 ≤ n → L - a + 1 ≤ m → mb_M S C L → S 8 6 = nI a → ∃ r S', f4_firstFault_L4 80 n 0 (nI a) Z = some r ∧ f8_findFault_L5 m S = some (r, S') ∧ mb_S8 S S'
  | 0, _, _, _, _, h, _, _, _, _, _ => by omega
  | w + 1, a, n, m, S, hw, ha, hn, hm, hM, h6 => by
    have hL := hM.1
    obtain ⟨m, rfl⟩ : ∃ m', m = m' + 1 := ⟨m - 1, by omega⟩
    have e5 : f8_findFault_L5 (m + 1) S = f8_findFault_b5 (f8_findFault_L5 m) S := rfl
    rw [e5]
    unfold f8_findFault_b5
    rcases lb_ord hZ hM ha h6 with ⟨e, S', b1, b2, b3, b4, b5, b6⟩ | ⟨a', num', due', S', k, c1, c2, c3, c4, c5, c6, c7, c8, c9, c10, c11, c12, c13, c14, c15, c16⟩
    · obtain ⟨n, rfl⟩ : ∃ n', n = n' + 2 := ⟨n - 2, by omega⟩
      refine ⟨nI e, S', b6 n, ?_, b4⟩
      rw [b3, lb_bd, if_pos rfl]
      show some (S' 8 6, S') = _
      rw [b5]
    · obtain ⟨n, rfl⟩ : ∃ n', n = (n' + 1) + k := ⟨n - k - 1, by omega⟩
      rw [c10 (n + 1), lb_ordE hZ c4 c7 c9, c11, lb_bd, if_neg (show ¬ (1 : Int32) = 0 by decide)]
      have hM' : mb_M S' C L := ⟨hL, by rw [c12.2 1 (by omega)]; exact hM.2.1, fun i hi => by rw [c12.1 5 (by omega)]; exact hM.2.2 i hi⟩
      show ∃ r S2, (if a' = L then some (-6) else if C a' = 59 then f4_firstFault_L4 80 n 0 (nI (a' + 1)) Z else some (nI a')) = some r ∧ (if S' 8 6 = S' 8 1 then some (-6, S') else fo_bd (f8_isNext 59 S') (fun q34 => if q34.1 = 0 then some (q34.2 8 6, q34.2) else f8_findFault_L5 m q34.2)) = some (r, S2) ∧ mb_S8 S S2
      rw [c13, hM'.2.1]
      by_cases e : a' = L
      · subst e
        rw [if_pos rfl, if_pos rfl]
        exact ⟨-6, S', rfl, rfl, c12⟩
      · rw [if_neg e, if_neg (fun h => e ((lb_inj (by omega) (by omega)).mp h))]
        rcases lb_next0 hM' (show a' ≤ 80 by omega) c13 with ⟨d1, d2, d3⟩ | ⟨d1, d2⟩
        · rw [if_pos d2, d3, lb_bd, if_neg (show ¬ (1 : Int32) = 0 by decide)]
          obtain ⟨r, S2, w1, w2, w3⟩ := lb_faultL hZ w (a' + 1) n m (ms_set S' 8 (upd (S' 8) 6 (nI (a' + 1)))) (by omega) (by omega) (by omega) (by omega) ⟨hL, by rw [lb_ms, lb_un (by omega)]; exact hM'.2.1, fun i hi => by rw [lb_mn (by omega)]; exact hM'.2.2 i hi⟩ (by rw [lb_ms, lb_us])
          refine ⟨r, S2, w1, w2, ?_, ?_⟩
          · intro g hg; rw [w3.1 g hg, lb_mn hg]; exact c12.1 g hg
          · intro i hi; rw [w3.2 i hi, lb_ms, lb_un (by omega)]; exact c12.2 i hi
        · have h59 : ¬ C a' = 59 := fun h => d1 ⟨by omega, h⟩
          rw [if_neg h59, d2, lb_bd, if_pos rfl]
          refine ⟨nI a', S', rfl, ?_, c12⟩
          show some (S' 8 6, S') = _
          rw [c13]
theorem lb_faultZ {X : xs_T} {S : ms_T} (h : RR X S) : ∃ r S' C L, f4_firstFault 80 (X 3) = some r ∧ f8_findFault S = some (r, S') ∧ mb_S8 S S' ∧ RR X S' ∧ mb_Z (X 3) C L ∧ mb_M S' C L ∧ mb_M S C L := by
  have h0 := h
  obtain ⟨-, -, -, ⟨L, b0, b1, b2, b3⟩⟩ := h
  have hZ : mb_Z (X 3) (X 3 0) L := ⟨b0, b1, fun _ _ => rfl⟩
  have hM : mb_M S (X 3 0) L := ⟨b0, b2, fun i hi => (b3 i hi).symm⟩
  obtain ⟨r, S', u1, u2, u3⟩ := lb_faultL hZ (L + 1) 0 1000 1000 (ms_set S 8 (upd (S 8) 6 0)) (by omega) (by omega) (by omega) (by omega) ⟨b0, by rw [lb_ms, lb_un (by omega)]; exact b2, fun i hi => by rw [lb_mn (by omega)]; exact (b3 i hi).symm⟩ (by rw [lb_ms, lb_us]; rfl)
  have e8 : mb_S8 S S' := ⟨fun g hg => by rw [u3.1 g hg, lb_mn hg], fun i hi => by rw [u3.2 i hi, lb_ms, lb_un (by omega)]⟩
  exact ⟨r, S', X 3 0, L, u1, u2, e8, h0.same (fun g a _ _ => e8.1 g a) ⟨e8.2 0 (by omega), e8.2 1 (by omega)⟩, hZ, ⟨b0, by rw [e8.2 1 (by omega)]; exact b2, fun i hi => by rw [e8.1 5 (by omega)]; exact (b3 i hi).symm⟩, hM⟩
theorem lb_fault {X : xs_T} {S : ms_T} (h : RR X S) : ∃ r S', f7_fault X = some r ∧ f8_fault S = some (r, S') ∧ RR X S' := by
  obtain ⟨r, S', C, L, u1, u2, u3, u4, -⟩ := lb_faultZ h
  unfold f7_fault f8_fault
  rw [u1, u2]
  exact ⟨r, S', rfl, rfl, u4⟩
/-! carrying out -/
theorem lb_obey {X : xs_T} {Bd : ms_T} {S : ms_T} {l : Int32} {num : Nat} (hl : mb_lt l) (hn : num ≤ 9999) (h7 : S 8 7 = l) (h8 : S 8 8 = nI num) (h : mb_S Bd (S 0)) :
    (∃ e : Int32, e < 0 ∧ f7_obey l (nI num) (xs_set X 5 Bd) = some (e, xs_set X 5 Bd) ∧ ∃ y, f8_whyNotDone S = some y ∧ ¬ y = 0) ∨ ∃ r B' S', ¬ r < 0 ∧ f7_obey l (nI num) (xs_set X 5 Bd) = some (r, xs_set X 5 B') ∧ f8_whyNotDone S = some 0 ∧ f8_does S = some S' ∧ mb_S B' (S' 0) ∧ (∀ g, g ≠ 0 → g ≠ 6 → g ≠ 8 → S' g = S g) ∧ ∀ i, i ≠ 5 → S' 8 i = S 8 i := by
  unfold f7_obey f8_whyNotDone f8_does
  rw [h7, h8, lb_xs]
  have neg : ∀ e : Int32, e < 0 → ¬ e = 0 := fun e h1 h2 => by rw [h2] at h1; exact absurd h1 (by decide)
  rcases hl with rfl | rfl | rfl | rfl
  · rw [if_pos rfl, if_pos rfl, if_pos rfl]
    rcases lb_clearC (S := S) h (nI num) with ⟨a1, a2⟩ | ⟨r, B', S', a0, a1, a2, a3, a4, a5, a6⟩
    · left
      refine ⟨-1, by decide, ?_, -1, ?_, by decide⟩
      · rw [a1, lb_bd, lb_xx]
      · rw [a2]; rfl
    · right
      refine ⟨r, B', S', a0, ?_, ?_, ?_, a4, a5, a6⟩
      · rw [a1, lb_bd, lb_xx]
      · rw [a2]; rfl
      · rw [a3]; rfl
  · rw [if_neg (show ¬ (112 : Int32) = 99 by decide), if_neg (show ¬ (112 : Int32) = 99 by decide), if_neg (show ¬ (112 : Int32) = 99 by decide), if_pos rfl, if_pos rfl, if_pos rfl]
    rcases lb_playerC h (nI num) with ⟨e, a0, a1, a2⟩ | ⟨r, B', T', a0, a1, a2, a3, a4⟩
    · left
      refine ⟨e, a0, ?_, e, ?_, neg e a0⟩
      · rw [a1, lb_bd, lb_xx]
      · rw [a2]; rfl
    · right
      refine ⟨r, B', ms_set S 0 T', a0, ?_, ?_, ?_, by rw [lb_ms]; exact a4, fun g h1 _ _ => lb_mn h1, fun i _ => by rw [lb_mn (by omega)]⟩
      · rw [a1, lb_bd, lb_xx]
      · rw [a2]; rfl
      · rw [a3]; rfl
  · rw [if_neg (show ¬ (116 : Int32) = 99 by decide), if_neg (show ¬ (116 : Int32) = 99 by decide), if_neg (show ¬ (116 : Int32) = 99 by decide), if_neg (show ¬ (116 : Int32) = 112 by decide), if_neg (show ¬ (116 : Int32) = 112 by decide), if_neg (show ¬ (116 : Int32) = 112 by decide), if_pos rfl, if_pos rfl, if_pos rfl]
    rcases lb_goC h (nI num) with ⟨e, a0, a1, a2⟩ | ⟨r, B', T', a0, a1, a2, a3, a4⟩
    · left
      refine ⟨e, a0, ?_, e, ?_, neg e a0⟩
      · rw [a1, lb_bd, lb_xx]
      · rw [a2]; rfl
    · right
      refine ⟨r, B', ms_set S 0 T', a0, ?_, ?_, ?_, by rw [lb_ms]; exact a4, fun g h1 _ _ => lb_mn h1, fun i _ => by rw [lb_mn (by omega)]⟩
      · rw [a1, lb_bd, lb_xx]
      · rw [a2]; rfl
      · rw [a3]; rfl
  · rw [if_neg (show ¬ (120 : Int32) = 99 by decide), if_neg (show ¬ (120 : Int32) = 99 by decide), if_neg (show ¬ (120 : Int32) = 99 by decide), if_neg (show ¬ (120 : Int32) = 112 by decide), if_neg (show ¬ (120 : Int32) = 112 by decide), if_neg (show ¬ (120 : Int32) = 112 by decide), if_neg (show ¬ (120 : Int32) = 116 by decide), if_neg (show ¬ (120 : Int32) = 116 by decide), if_neg (show ¬ (120 : Int32) = 116 by decide), if_pos rfl]
    rcases lb_seedC h (nI num) with ⟨a1, a2⟩ | ⟨B', a1, a2, a3, a4⟩
    · exfalso
      have e : f8_within (nI num) (0 : Int32) (9999 : Int32) = some 1 := by
        unfold f8_within
        rw [if_neg (nI_pos (by omega)), if_neg (show ¬ (9999 : Int32) < nI num from nI_nlt (a := 9999) (by omega) (by omega))]
      rw [e] at a2
      exact absurd a2 (by decide)
    · right
      refine ⟨_, B', ms_set S 0 (upd (S 0) 8 (nI num)), a3, ?_, rfl, ?_, by rw [lb_ms]; exact a4, fun g h1 _ _ => lb_mn h1, fun i _ => by rw [lb_mn (by omega)]⟩
      · rw [a1, lb_bd, lb_xx]
      · rw [lb_k8, lb_c8]
theorem lb_carryL {X1 : xs_T} {C : Nat → Int32} {L : Nat} (hZ : mb_Z (X1 3) C L) : ∀ (w a nf n7 n8 : Nat) (done l : Int32) (Bd S : ms_T), L - a < w → a ≤ L → L - a + 10 ≤ nf → L - a + 10 ≤ n7 → L - a + 10 ≤ n8 → mb_M S C L → S 8 6 = nI a → mb_S Bd (S 0) → f4_firstFault_L4 80 nf 0 (nI a) (X1 3) = some (-6) →
    ∃ r B' S', f7_carryOut_L38 n7 done l 0 1 (nI a) (xs_set X1 5 Bd) = f7_carryOut_b155 r (xs_set X1 5 B') ∧ f8_carryOut_L25 n8 done 1 S = f8_carryOut_b79 r S' ∧ mb_S B' (S' 0) ∧ (∀ g, g ≠ 0 → g ≠ 6 → g ≠ 8 → S' g = S g) ∧ ∀ i, i < 5 → S' 8 i = S 8 i
  | 0, _, _, _, _, _, _, _, _, h, _, _, _, _, _, _, _, _ => by omega
  | w + 1, a, nf, n7, n8, done, l, Bd, S, hw, ha, hf, h7, h8, hM, h6, hB, hff => by
    have hL := hM.1
    rcases lb_ord hZ hM ha h6 with ⟨e, S', b1, b2, b3, b4, b5, b6⟩ | ⟨a', num', due', S1, k, c1, c2, c3, c4, c5, c6, c7, c8, c9, c10, c11, c12, c13, c14, c15, c16⟩
    · obtain ⟨nf, rfl⟩ : ∃ n', nf = n' + 2 := ⟨nf - 2, by omega⟩
      rw [b6 nf] at hff
      injection hff with hff
      exact absurd hff (lb_n6 (by omega))
    · obtain ⟨nf, rfl⟩ : ∃ n', nf = (n' + 1) + k := ⟨nf - k - 1, by omega⟩
      obtain ⟨n7, rfl⟩ : ∃ n', n7 = (n' + 2) + k := ⟨n7 - k - 2, by omega⟩
      obtain ⟨n8, rfl⟩ : ∃ n', n8 = (n' + 1) + 1 := ⟨n8 - 2, by omega⟩
      rw [c10 (nf + 1), lb_ordE hZ c4 c7 c9] at hff
      have hend : a' = L ∨ (a' < L ∧ C a' = 59) := by
        by_cases e : a' = L
        · exact Or.inl e
        · rw [if_neg e] at hff
          by_cases e2 : C a' = 59
          · exact Or.inr ⟨by omega, e2⟩
          · rw [if_neg e2] at hff
            injection hff with hff
            exact absurd hff (lb_n6 (by omega))
      have hM1 : mb_M S1 C L := ⟨hL, by rw [c12.2 1 (by omega)]; exact hM.2.1, fun i hi => by rw [c12.1 5 (by omega)]; exact hM.2.2 i hi⟩
      have eZ : mb_Z ((xs_set X1 5 Bd) 3) C L := by rw [lb_xn (by omega)]; exact hZ
      have hs : nI a' + (1 : Int32) = nI (a' + 1) := (nI_succ a').symm
      have e00 : S1 0 = S 0 := c12.1 0 (by omega)
      have hB1 : mb_S Bd (S1 0) := by rw [e00]; exact hB
      -- the class at the order's end
      have cls : f7_carryOut_L38 (n7 + 2 + k) done l 0 1 (nI a) (xs_set X1 5 Bd) = fo_bd (f7_obey (C a) (nI num') (xs_set X1 5 Bd)) (fun q93 => if q93.1 < 0 then f7_carryOut_L38 (n7 + 1) (done + 0) (C a) 0 0 (nI (a' + 1)) q93.2 else f7_carryOut_L38 (n7 + 1) (done + 1) (C a) 0 1 (nI (a' + 1)) q93.2) := by
        rw [c16 (xs_set X1 5 Bd) (n7 + 2) done l eZ]
        show f7_carryOut_b38 (f7_carryOut_L38 (n7 + 1)) done (C a) (nI num') 1 (nI a') (xs_set X1 5 Bd) = _
        unfold f7_carryOut_b38 f7_carryOut_b81 f7_carryOut_b104 f7_carryOut_b117 f7_carryOut_b149 f3_length f3_at
        rw [lb_bd, lb_bd, eZ.2.1, if_neg (nI_nlt (by omega) (by omega)), if_neg (show ¬ (1 : Int32) = 0 by decide), hs]
        have z0 : (if (0 : Int32) = 0 then f7_carryOut_L38 (n7 + 1) (done + 0) (C a) 0 0 (nI (a' + 1)) else f7_carryOut_L38 (n7 + 1) (done + 1) (C a) 0 0 (nI (a' + 1))) = f7_carryOut_L38 (n7 + 1) (done + 0) (C a) 0 0 (nI (a' + 1)) := if_pos rfl
        rcases hend with e | ⟨e, e2⟩
        · rw [if_pos (nI_le (by omega) (by omega)), if_pos rfl]; rfl
        · rw [if_neg (nI_ge e (by omega)), if_neg (nI_ge e (by omega)), lb_at (by omega) (by omega), lb_bd, lb_bd, eZ.2.2 a' e, e2, if_pos rfl]; rfl
      -- the reference behind the order
      have hnx : ∃ y S2, f8_isNext 59 S1 = some (y, S2) ∧ mb_S8 S1 S2 ∧ S2 8 7 = C a ∧ S2 8 8 = nI num' ∧ (a' = L → S2 8 6 = nI L) ∧ (a' < L → S2 8 6 = nI (a' + 1)) := by
        rcases lb_next0 hM1 (show a' ≤ 80 by omega) c13 with ⟨d1, d2, d3⟩ | ⟨d1, d2⟩
        · refine ⟨1, _, d3, ⟨fun g hg => lb_mn hg, fun i hi => by rw [lb_ms, lb_un (by omega)]⟩, by rw [lb_ms, lb_un (by omega)]; exact c14, by rw [lb_ms, lb_un (by omega)]; exact c15, fun h => by omega, fun _ => by rw [lb_ms, lb_us]⟩
        · refine ⟨0, S1, d2, ⟨fun _ _ => rfl, fun _ _ => rfl⟩, c14, c15, fun h => by rw [c13, h], fun h => ?_⟩
          rcases hend with e | e
          · omega
          · exact absurd e d1
      obtain ⟨y, S2, x1, x2, x3, x4, x5, x6⟩ := hnx
      have hB2 : mb_S Bd (S2 0) := by rw [x2.1 0 (by omega)]; exact hB1
      have ref : f8_carryOut_L25 (n8 + 1 + 1) done 1 S = fo_bd (f8_whyNotDone S2) (fun q53 => if q53 = 0 then fo_bd (f8_does S2) (fun q70 => f8_carryOut_L25 (n8 + 1) (done + 1) 1 q70) else f8_carryOut_L25 (n8 + 1) done 0 S2) := by
        show f8_carryOut_b25 (f8_carryOut_L25 (n8 + 1)) done 1 S = _
        unfold f8_carryOut_b25 f8_carryOut_b64
        rw [if_neg (show ¬ (1 : Int32) = 0 by decide), hM.2.1, h6, if_neg (nI_ge c5 (by omega)), c11, lb_bd, x1, lb_bd]
        rfl
      rw [cls, ref]
      rcases lb_obey (X := X1) c6 c8 x3 x4 hB2 with ⟨e, o1, o2, yy, o3, o4⟩ | ⟨r, B', S3, o1, o2, o3, o4, o5, o6, o7⟩
      · rw [o2, lb_bd, o3, lb_bd, if_neg o4]
        refine ⟨done, Bd, S2, ?_, ?_, hB2, ?_, ?_⟩
        · show (if e < 0 then _ else _) = _
          rw [if_pos o1, Int32.add_zero]
          show f7_carryOut_b38 (f7_carryOut_L38 n7) done (C a) 0 0 (nI (a' + 1)) (xs_set X1 5 Bd) = _
          unfold f7_carryOut_b38 f3_length
          rw [lb_bd]
          split
          · rfl
          · rw [if_pos rfl]
        · show f8_carryOut_b25 (f8_carryOut_L25 n8) done 0 S2 = _
          unfold f8_carryOut_b25
          rw [if_pos rfl]
        · intro g g0 g6 g8; rw [x2.1 g g8, c12.1 g g8]
        · intro i hi; rw [x2.2 i (by omega), c12.2 i (by omega)]
      · rw [o2, lb_bd, o3, lb_bd, if_pos rfl, o4, lb_bd]
        have hM3 : mb_M S3 C L := ⟨hL, by rw [o7 1 (by omega), x2.2 1 (by omega)]; exact hM1.2.1, fun i hi => by rw [o6 5 (by omega) (by omega) (by omega), x2.1 5 (by omega)]; exact hM1.2.2 i hi⟩
        have g3 : ∀ g, g ≠ 0 → g ≠ 6 → g ≠ 8 → S3 g = S g := fun g g0 g6 g8 => by rw [o6 g g0 g6 g8, x2.1 g g8, c12.1 g g8]
        have i3 : ∀ i, i < 5 → S3 8 i = S 8 i := fun i hi => by rw [o7 i (by omega), x2.2 i (by omega), c12.2 i (by omega)]
        show ∃ r' B'' S', (if r < 0 then f7_carryOut_L38 (n7 + 1) (done + 0) (C a) 0 0 (nI (a' + 1)) (xs_set X1 5 B') else f7_carryOut_L38 (n7 + 1) (done + 1) (C a) 0 1 (nI (a' + 1)) (xs_set X1 5 B')) = _ ∧ _
        rw [if_neg o1]
        rcases hend with e | ⟨e, e2⟩
        · -- the text's end
          refine ⟨done + 1, B', S3, ?_, ?_, o5, g3, i3⟩
          · show f7_carryOut_b38 (f7_carryOut_L38 n7) (done + 1) (C a) 0 1 (nI (a' + 1)) (xs_set X1 5 B') = _
            unfold f7_carryOut_b38 f3_length
            rw [lb_bd, lb_xn (by omega), hZ.2.1, if_pos (nI_lt (by omega) (by omega))]
          · show f8_carryOut_b25 (f8_carryOut_L25 n8) (done + 1) 1 S3 = _
            unfold f8_carryOut_b25
            rw [if_neg (show ¬ (1 : Int32) = 0 by decide), hM3.2.1, o7 6 (by omega), x5 e, if_pos (nI_le (Nat.le_refl _) (by omega))]
        · rw [if_neg (by omega), if_pos e2] at hff
          obtain ⟨r', B'', S', w1, w2, w3, w4, w5⟩ := lb_carryL hZ w (a' + 1) nf (n7 + 1) (n8 + 1) (done + 1) (C a) B' S3 (by omega) (by omega) (by omega) (by omega) (by omega) hM3 (by rw [o7 6 (by omega)]; exact x6 e) o5 hff
          refine ⟨r', B'', S', w1, w2, w3, ?_, ?_⟩
          · intro g g0 g6 g8; rw [w4 g g0 g6 g8, g3 g g0 g6 g8]
          · intro i hi; rw [w5 i hi, i3 i hi]
theorem lb_carryOut {X : xs_T} {S : ms_T} (h : RR X S) : ∃ r X' S', f7_carryOut X = some (r, X') ∧ f8_carryOut S = some (r, S') ∧ RR X' S' := by
  obtain ⟨r, S1, C, L, u1, u2, u3, u4, u5, u6, u7⟩ := lb_faultZ h
  unfold f7_carryOut f8_carryOut
  rw [u1, lb_bd, u2, lb_bd]
  by_cases hr : r = -6
  · subst hr
    rw [if_pos rfl, if_pos rfl]
    obtain ⟨f, B, hf, e, s1, s2, s3⟩ := lb_stage u4
    obtain ⟨q0, S2, k1, k2, k3, k4, k5, -⟩ := u4.keep hf e s2 u4.1
    rw [s1, lb_bd, s3, k2, lb_bd]
    have eX : xs_set (xs_set X (7 + f) B) 5 (X 5) = xs_set X (7 + f) B := by
      funext g; unfold xs_set; split
      · next h => subst h; rw [if_neg (by omega)]
      · rfl
    have hZ1 : mb_Z ((xs_set X (7 + f) B) 3) C L := by rw [lb_xn (by omega)]; exact u5
    have hM2 : mb_M (ms_set S2 8 (upd (S2 8) 6 0)) C L := ⟨u6.1, by rw [lb_ms, lb_un (by omega), k5 1 (by omega)]; exact u6.2.1, fun i hi => by rw [lb_mn (by omega), k4 5 (by omega) (by omega)]; exact u6.2.2 i hi⟩
    obtain ⟨r, B', S3, w1, w2, w3, w4, w5⟩ := lb_carryL hZ1 (L + 1) 0 1000 1000 1000 0 0 (X 5) (ms_set S2 8 (upd (S2 8) 6 0)) (by omega) (by omega) (by have := u6.1; omega) (by have := u6.1; omega) (by have := u6.1; omega) hM2 (by rw [lb_ms, lb_us]; rfl) (by rw [lb_mn (by omega), k3]; exact u4.1) (by rw [lb_xn (by omega)]; exact u1)
    rw [eX] at w1
    obtain ⟨q, S4, m1, m2, m3, m4, m5, m6⟩ := u4.keep hf e s2 w3
    have eS : S4 = S2 := by have := m2.symm.trans k2; injection this
    subst eS
    have w1' : f7_carryOut_L38 fo_fu 0 0 0 1 0 (xs_set X (7 + f) B) = f7_carryOut_b155 r (xs_set (xs_set X (7 + f) B) 5 B') := w1
    have w2' : f8_carryOut_L25 fo_fu 0 1 (ms_set S4 8 (upd (S4 8) 6 0)) = f8_carryOut_b79 r S3 := w2
    rw [w1', w2']
    unfold f7_carryOut_b155 f8_carryOut_b79 f3_makeEmpty
    rw [m1, lb_bd, lb_bd]
    refine ⟨r, _, _, rfl, rfl, ?_⟩
    have m7 : RR (xs_set (xs_set (xs_set X (7 + f) B) 5 B') 2 q) S3 := by
      refine m6.same ?_ ?_
      · intro g h8 h6 h7
        by_cases h00 : g = 0
        · subst h00; rw [lb_ms]
        · rw [lb_mn h00, w4 g h00 h6 h8, lb_mn h8]
      · rw [lb_mn (by omega), w5 0 (by omega), w5 1 (by omega), lb_ms, lb_un (by omega), lb_un (by omega)]
        exact ⟨rfl, rfl⟩
    refine m7.pad (fun g hg => lb_xn hg) (fun g _ _ _ h8 => lb_mn h8) ?_ ⟨0, by omega, ?_, ?_, fun i hi => by omega⟩
    · rw [lb_ms, lb_un (by omega)]
    · rw [lb_xs, lb_ms, lb_us]; rfl
    · rw [lb_ms, lb_us]; rfl
  · rw [if_neg hr, if_neg hr]
    exact ⟨_, X, S1, rfl, rfl, u4⟩
