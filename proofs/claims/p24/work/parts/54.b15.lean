/-! ## Layer B: purses to come, the best draw -/
theorem lb_mv0 {F S : Nat → Int32} (hz : ∀ j, 107 ≤ j → F j = S j) : mb_mv F 0 0 S = F := by
  funext j
  unfold mb_mv
  by_cases h : j < 107
  · rw [if_pos (by omega)]; congr 1; omega
  · rw [if_neg (by omega)]; exact (hz j (by omega)).symm
theorem lb_mv0I {F S : Nat → Int32} {i : Nat} (hi : i < 107) : mb_mv F 0 0 S i = F i := by
  have := lb_mvI (F := F) (S := S) (a := 0) (b := 0) hi
  rw [Nat.zero_add] at this
  exact this
theorem lb_mv00 {F S : Nat → Int32} : f8_moves 107 107 F 0 0 S = some (mb_mv F 0 0 S) := lb_mv (a := 0) (b := 0) (by omega) (by omega) (by omega) (by omega)
theorem lb_wint {v : Int32} {a b : Nat} (ha : a < 2 ^ 31) (hb : b < 2 ^ 31) {α : Type} (x y : α) : (f8_within v (nI a) (nI b) = some 0 ∧ (if v < nI a then x else if v ≤ nI b then y else x) = x) ∨ (f8_within v (nI a) (nI b) = some 1 ∧ (if v < nI a then x else if v ≤ nI b then y else x) = y ∧ ∃ n, v = nI n ∧ a ≤ n ∧ n ≤ b) := by
  rcases lb_within (v := v) ha hb with ⟨h1, h2⟩ | ⟨h1, h2, h3, h4⟩
  · left
    refine ⟨h1, ?_⟩
    by_cases c : v < nI a
    · rw [if_pos c]
    · rw [if_neg c, if_neg]
      rcases h2 with h2 | h2
      · exact absurd h2 c
      · exact h2
  · right
    rw [if_neg h2, if_pos h3]
    exact ⟨h1, rfl, h4⟩
theorem lb_purseIn {X : xs_T} {S : ms_T} (h : RR X S) (v w : Int32) : ∃ r X' S', f7_purseIn v w X = some (r, X') ∧ f8_purseIn v w S = some (r, S') ∧ RR X' S' := by
  have hh := h
  obtain ⟨⟨P, t, ht, hJ, hR⟩, -, -, -⟩ := hh
  have hP := hJ.P4
  unfold f7_purseIn f8_purseIn
  rcases hJ.isPlayer v with ⟨a1, a2⟩ | ⟨p, hp, rfl, a1⟩
  · rcases lb_hasP hR hJ.h6 hP v with ⟨b1, -⟩ | ⟨p, hp, e, -⟩
    · rw [a1, b1]; exact ⟨_, X, S, rfl, rfl, h⟩
    · exact absurd ⟨p, hp, e⟩ a2
  · rcases lb_hasP hR hJ.h6 hP (nI p) with ⟨-, b1⟩ | ⟨p', hp', e, b1⟩
    · exact absurd ⟨p, hp, rfl⟩ b1
    · rw [a1, b1, lb_bd, lb_bd, if_neg (show ¬ (1 : Int32) = 0 by decide), if_neg (show ¬ (1 : Int32) = 0 by decide)]
      have hw : f8_within w (1 : Int32) (99 : Int32) = f8_within w (nI 1) (nI 99) := rfl
      rw [hw]
      rcases lb_within (v := w) (a := 1) (b := 99) (by omega) (by omega) with ⟨d1, d2⟩ | ⟨d1, d2, d3, N, rfl, d4, d5⟩
      · refine ⟨-2, X, S, ?_, ?_, h⟩
        · by_cases c : w < 1
          · rw [if_pos c]
          · rw [if_neg c, if_neg]
            rcases d2 with d2 | d2
            · exact absurd d2 c
            · exact d2
        · rw [d1]; rfl
      · obtain ⟨B, c1, c2⟩ := lb_copyB (S := X 6) hR
        rw [d1, if_neg (show ¬ nI N < (1 : Int32) from d2), if_pos (show nI N ≤ (99 : Int32) from d3), lb_bd, if_neg (show ¬ (1 : Int32) = 0 by decide), c1, lb_bd, lb_mv00, lb_bd, lb_xs, lb_mn (show (0 : Nat) ≠ 1 by decide)]
        obtain ⟨S1, k1, k2⟩ := hJ.take c2 (N := N) (by omega) (by omega) (by omega)
        have e0 : S1 6 p = mb_turns N (S 0) (51 + 6 * p) := k2.p (k := 0) (by omega) (by omega)
        have ep : f0_purseOf (nI p) S1 = some (mb_turns N (S 0) (51 + 6 * p)) := by
          unfold f0_purseOf; rw [lb_at (by omega) (by omega), lb_bd, e0]
        rw [k1, lb_bd, lb_xs, ep, lb_bd, hJ.doTurns (N := N) (by omega) (by omega) (by omega), lb_bd, lb_ms]
        rw [lb_part0 (by omega), lb_bd, lb_mn (show (1 : Nat) ≠ 0 by decide), lb_ms, lb_mv00, lb_bd]
        refine ⟨_, _, _, rfl, rfl, ?_⟩
        rw [lb_xx]
        refine h.trial ?_ ?_ ?_
        · intro i hi
          rw [lb_ms, lb_mv0I hi, lb_mv0I hi]
        · intro k hk; rw [lb_mn (by omega), lb_mn (by omega), lb_mn (by omega)]
        · rw [lb_mn (by omega), lb_mn (by omega), lb_mn (by omega)]; exact ⟨rfl, rfl⟩
/-! the best draw -/
def mb_we (T : Nat → Int32) (p N k : Nat) : Int32 := (mb_turns N (upd T 8 (nI k)) (51 + 6 * p) + mb_to (mb_turns N (upd T 8 (nI k))) p) - mb_by (mb_turns N (upd T 8 (nI k))) p
def mb_bs (T : Nat → Int32) (p N : Nat) : Nat → Nat → Int32 → Int32 → Int32
  | 0, _, b, _ => b
  | r + 1, k, b, m => if k = 0 ∨ ¬ mb_we T p N k ≤ m then mb_bs T p N r (k + 1) (nI k) (mb_we T p N k) else mb_bs T p N r (k + 1) b m
theorem lb_bs8L {P p N t : Nat} (hp : p < P) (hP : P ≤ 4) (hN : N < 100) {T : Nat → Int32} (h : mb_J P t T) (ht : t ≤ 9999) : ∀ (r k n : Nat) (b m : Int32) (S : ms_T), k + r = 50 → r < n → S 0 = T → (∀ i, i < 107 → S 1 i = T i) → (b = -6 ↔ k = 0) → ∃ S', f8_bestSeed_L45 n (nI p) (nI N) b m (nI k) S = some (mb_bs T p N r k b m, S') ∧ S' 0 = T ∧ ∀ j, j ≠ 0 → S' j = S j
  | _, _, 0, _, _, _, _, h, _, _, _ => by omega
  | 0, k, n + 1, b, m, S, hk, hn, h0, h1, hb => by
    refine ⟨S, ?_, h0, fun _ _ => rfl⟩
    show f8_bestSeed_b45 _ (nI p) (nI N) b m (nI k) S = _
    unfold f8_bestSeed_b45
    rw [show (50 : Int32) = nI 50 from rfl, if_pos (nI_le (by omega) (by omega))]; rfl
  | r + 1, k, n + 1, b, m, S, hk, hn, h0, h1, hb => by
    have g : mb_J P t (upd T 8 (nI k)) := h.setDraw (by omega)
    have gT := mb_J.turns (by omega) N t _ g (by omega)
    have restore : mb_mv (S 1) 0 0 (mb_turns N (upd T 8 (nI k))) = T := by
      funext j
      by_cases hj : j < 107
      · rw [lb_mv0I hj]; exact h1 j hj
      · unfold mb_mv; rw [if_neg (by omega), mb_J.turnsHi (by omega) (by omega) N t _ g (by omega), lb_un (by omega)]
    have S0e : ms_set S 0 T = S := by
      funext j; unfold ms_set; split
      · next e => rw [e, h0]
      · rfl
    have hs : nI k + 1 = nI (k + 1) := (nI_succ k).symm
    have IH := fun b m hb => lb_bs8L hp hP hN h ht r (k + 1) n b m S (by omega) (by omega) h0 h1 hb
    show ∃ S', f8_bestSeed_b45 (f8_bestSeed_L45 n) (nI p) (nI N) b m (nI k) S = some (if k = 0 ∨ ¬ mb_we T p N k ≤ m then mb_bs T p N r (k + 1) (nI k) (mb_we T p N k) else mb_bs T p N r (k + 1) b m, S') ∧ _
    unfold f8_bestSeed_b45 f8_bestSeed_b113 f8_bestSeed_b118 f8_bestSeed_b131 f8_bestSeed_b144
    rw [show (50 : Int32) = nI 50 from rfl, if_neg (nI_ge (by omega) (by omega)), lb_k8, lb_c8, h0, lb_ms, g.doTurns (N := N) (by omega) (by omega) (by omega), lb_bd]
    simp only [lb_ms, lb_mn (show (1 : Nat) ≠ 0 by decide), lb_part0 (show p < 4 by omega), gT.to8 (show p < 4 by omega), gT.by8 (show p < 4 by omega), lb_mv00, lb_bd]
    have e3 : ms_set (ms_set (ms_set S 0 (upd T 8 (nI k))) 0 (mb_turns N (upd T 8 (nI k)))) 0 (mb_mv (S 1) 0 0 (mb_turns N (upd T 8 (nI k)))) = S := by
      rw [restore]
      conv => rhs; rw [← S0e]
      funext j; unfold ms_set; split <;> rfl
    rw [e3, hs]
    have ew : mb_turns N (upd T 8 (nI k)) (51 + 6 * p) + mb_to (mb_turns N (upd T 8 (nI k))) p - mb_by (mb_turns N (upd T 8 (nI k))) p = mb_we T p N k := rfl
    rw [ew]
    have fin : b = -6 ∨ ¬ mb_we T p N k ≤ m → ∃ S', f8_bestSeed_L45 n (nI p) (nI N) (nI k) (mb_we T p N k) (nI (k + 1)) S = some (if k = 0 ∨ ¬ mb_we T p N k ≤ m then mb_bs T p N r (k + 1) (nI k) (mb_we T p N k) else mb_bs T p N r (k + 1) b m, S') ∧ S' 0 = T ∧ ∀ j, j ≠ 0 → S' j = S j := by
      intro hc
      rw [if_pos (show k = 0 ∨ ¬ mb_we T p N k ≤ m from hc.elim (fun e => Or.inl (hb.mp e)) Or.inr)]
      exact IH _ _ ⟨fun e => absurd e (lb_n6 (by omega)), fun e => by omega⟩
    by_cases c1 : b = -6
    · rw [if_pos c1, if_neg (show ¬ (1 : Int32) = 0 by decide), if_neg (show ¬ (1 : Int32) = 0 by decide)]
      exact fin (Or.inl c1)
    · rw [if_neg c1]
      by_cases c2 : mb_we T p N k ≤ m
      · rw [if_pos c2, if_pos trivial, if_pos trivial, if_neg (show ¬ (k = 0 ∨ ¬ mb_we T p N k ≤ m) by
          rintro (e | e)
          · exact c1 (hb.mpr e)
          · exact e c2)]
        exact IH b m ⟨fun e => absurd e c1, fun e => by omega⟩
      · rw [if_neg c2, if_neg (show ¬ (1 : Int32) = 0 by decide), if_neg (show ¬ (1 : Int32) = 0 by decide)]
        exact fin (Or.inr c2)
theorem lb_bs7L {P p N t : Nat} (hp : p < P) (hP : P ≤ 4) (hN : N < 100) {T : Nat → Int32} (h : mb_J P t T) (ht : t ≤ 9999) : ∀ (r k n : Nat) (b m : Int32) (X : xs_T), k + r = 50 → r < n → RB (X 5) T → ∃ B, f7_bestSeed_L35 n (nI p) (nI N) b m (nI k) X = some (mb_bs T p N r k b m, xs_set X 6 B)
  | _, _, 0, _, _, _, _, h, _ => by omega
  | 0, k, n + 1, b, m, X, hk, hn, hR => by
    have self : xs_set X 6 (X 6) = X := by
      funext j; unfold xs_set; split
      · next h => rw [h]
      · rfl
    refine ⟨X 6, ?_⟩
    rw [self]
    show f7_bestSeed_b35 _ (nI p) (nI N) b m (nI k) X = _
    unfold f7_bestSeed_b35
    rw [show (50 : Int32) = nI 50 from rfl, if_pos (nI_le (by omega) (by omega))]; rfl
  | r + 1, k, n + 1, b, m, X, hk, hn, hR => by
    have g : mb_J P t (upd T 8 (nI k)) := h.setDraw (by omega)
    have hs : nI k + 1 = nI (k + 1) := (nI_succ k).symm
    obtain ⟨B1, c1, c2⟩ := lb_copyB (S := X 6) hR
    have c3 := c2.draw (nI k)
    have ed : f0_changeDraws (nI k) B1 = some (B1 12 2, ms_set B1 12 (upd (B1 12) 2 (nI k))) := by
      unfold f0_changeDraws
      rw [if_neg (nI_pos (by omega)), if_pos (show nI k ≤ (9999 : Int32) from nI_le (b := 9999) (by omega) (by omega))]
    obtain ⟨B2, d1, d2⟩ := g.take c3 (N := N) (by omega) (by omega) (by omega)
    have ew : f0_wealthOf (nI p) B2 = some (mb_we T p N k) := by
      unfold f0_wealthOf
      rw [lb_at (by omega) (by omega), lb_bd, d2.to1 (by omega), lb_bd, d2.by1 (by omega), lb_bd, show B2 6 p = _ from d2.p (k := 0) (by omega) (by omega)]
      rfl
    show ∃ B, f7_bestSeed_b35 (f7_bestSeed_L35 n) (nI p) (nI N) b m (nI k) X = some (if k = 0 ∨ ¬ mb_we T p N k ≤ m then mb_bs T p N r (k + 1) (nI k) (mb_we T p N k) else mb_bs T p N r (k + 1) b m, xs_set X 6 B)
    unfold f7_bestSeed_b35 f7_bestSeed_b93 f7_bestSeed_b100
    rw [show (50 : Int32) = nI 50 from rfl, if_neg (nI_ge (by omega) (by omega)), c1, lb_bd, lb_xs, ed, lb_bd]
    simp only [lb_xs, d1, lb_bd, ew, lb_xx, hs]
    have k0 : nI k = 0 ↔ k = 0 := lb_inj (b := 0) (by omega) (by omega)
    have IH := fun b m => lb_bs7L hp hP hN h ht r (k + 1) n b m (xs_set X 6 B2) (by omega) (by omega) (by rw [lb_xn (by omega)]; exact hR)
    have fin : ∀ b' m', ∃ B, f7_bestSeed_L35 n (nI p) (nI N) b' m' (nI (k + 1)) (xs_set X 6 B2) = some (mb_bs T p N r (k + 1) b' m', xs_set X 6 B) := by
      intro b' m'
      obtain ⟨B, u⟩ := IH b' m'
      rw [lb_xx] at u
      exact ⟨B, u⟩
    by_cases c4 : k = 0
    · rw [if_pos (k0.mpr c4), if_pos (Or.inl c4)]; exact fin _ _
    · rw [if_neg (fun e => c4 (k0.mp e))]
      by_cases c5 : mb_we T p N k ≤ m
      · rw [if_pos c5, if_neg (show ¬ (k = 0 ∨ ¬ mb_we T p N k ≤ m) by
          rintro (e | e)
          · exact c4 e
          · exact e c5)]
        exact fin _ _
      · rw [if_neg c5, if_pos (Or.inr c5)]; exact fin _ _
theorem lb_bs0 {T : Nat → Int32} {p N r : Nat} (b b' m m' : Int32) : mb_bs T p N (r + 1) 0 b m = mb_bs T p N (r + 1) 0 b' m' := by
  show (if 0 = 0 ∨ ¬ mb_we T p N 0 ≤ m then _ else _) = (if 0 = 0 ∨ ¬ mb_we T p N 0 ≤ m' then _ else _)
  rw [if_pos (Or.inl rfl), if_pos (Or.inl rfl)]
theorem lb_bestSeed {X : xs_T} {S : ms_T} (h : RR X S) (v w : Int32) : ∃ r X' S', f7_bestSeed v w X = some (r, X') ∧ f8_bestSeed v w S = some (r, S') ∧ RR X' S' := by
  have hh := h
  obtain ⟨⟨P, t, ht, hJ, hR⟩, -, -, -⟩ := hh
  have hP := hJ.P4
  unfold f7_bestSeed f8_bestSeed
  rcases hJ.isPlayer v with ⟨a1, a2⟩ | ⟨p, hp, rfl, a1⟩
  · rcases lb_hasP hR hJ.h6 hP v with ⟨b1, -⟩ | ⟨p, hp, e, -⟩
    · rw [a1, b1]; exact ⟨_, X, S, rfl, rfl, h⟩
    · exact absurd ⟨p, hp, e⟩ a2
  · rcases lb_hasP hR hJ.h6 hP (nI p) with ⟨-, b1⟩ | ⟨p', hp', e, b1⟩
    · exact absurd ⟨p, hp, rfl⟩ b1
    · rw [a1, b1, lb_bd, lb_bd, if_neg (show ¬ (1 : Int32) = 0 by decide), if_neg (show ¬ (1 : Int32) = 0 by decide)]
      have hw : f8_within w (1 : Int32) (60 : Int32) = f8_within w (nI 1) (nI 60) := rfl
      rw [hw]
      rcases lb_within (v := w) (a := 1) (b := 60) (by omega) (by omega) with ⟨d1, d2⟩ | ⟨d1, d2, d3, N, rfl, d4, d5⟩
      · refine ⟨-2, X, S, ?_, ?_, h⟩
        · by_cases c : w < 1
          · rw [if_pos c]
          · rw [if_neg c, if_neg]
            rcases d2 with d2 | d2
            · exact absurd d2 c
            · exact d2
        · rw [d1]; rfl
      · rw [d1, if_neg (show ¬ nI N < (1 : Int32) from d2), if_pos (show nI N ≤ (60 : Int32) from d3), lb_bd, if_neg (show ¬ (1 : Int32) = 0 by decide), lb_mv00, lb_bd]
        obtain ⟨B, u1⟩ := lb_bs7L hp hP (by omega) hJ ht (N := N) 50 0 1000 0 0 X rfl (by omega) hR
        obtain ⟨S', u2, u3, u4⟩ := lb_bs8L hp hP (by omega) hJ ht (N := N) 50 0 1000 (-6) 0 (ms_set S 1 (mb_mv (S 0) 0 0 (S 1))) rfl (by omega) (lb_mn (by omega)) (fun i hi => by rw [lb_ms]; exact lb_mv0I hi) ⟨fun _ => rfl, fun _ => rfl⟩
        rw [lb_bs0 (r := 49) (-6) 0 0 0] at u2
        refine ⟨_, _, _, u1, u2, ?_⟩
        refine h.trial ?_ ?_ ?_
        · intro i hi; rw [u3]
        · intro k hk; rw [u4 k (by omega), lb_mn (by omega)]
        · rw [u4 8 (by omega), lb_mn (by omega)]; exact ⟨rfl, rfl⟩
