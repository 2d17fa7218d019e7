/-! ## Layer B: copies, more turns -/
theorem lb_copyB {Z S : ms_T} {T : Nat → Int32} (h : RB Z T) : ∃ S', f0_copyFrom Z S = some S' ∧ RB S' T := by
  unfold f0_copyFrom f5_copyFrom f1_copyFrom
  simp only [lb_copyF (show 20 < 1000 by omega), lb_copyF (show 16 < 1000 by omega), lb_copyF (show 5 < 1000 by omega), lb_copyF (show 4 < 1000 by omega), lb_bd]
  refine ⟨_, rfl, ?_⟩
  refine ⟨fun g i ok => ?_, fun i hi => ?_⟩
  · have hz := h.r g i ok
    rcases rb_cl ok with ⟨rfl, hi, -⟩ | ⟨rfl, hi, -⟩ | ⟨rfl, hi, -⟩ | ⟨rfl, hi, -⟩ | ⟨g1, g2, hi, -⟩ | ⟨rfl, hi⟩
    · rw [← hz]
      show (if i < 20 then Z 0 i else S 0 i) = _
      rw [if_pos hi]
    · rw [← hz]
      show (if i < 20 then Z 1 i else S 1 i) = _
      rw [if_pos hi]
    · rw [← hz]
      show (if i < 16 then Z 2 i else S 2 i) = _
      rw [if_pos hi]
    · rw [← hz]
      show (if i < 5 then Z 5 i else S 5 i) = _
      rw [if_pos hi]
    · rw [← hz]
      have h6 : g = 6 ∨ g = 7 ∨ g = 8 ∨ g = 9 ∨ g = 10 ∨ g = 11 := by omega
      rcases h6 with rfl | rfl | rfl | rfl | rfl | rfl
      · show (if i < 4 then Z 6 i else S 6 i) = _
        rw [if_pos hi]
      · show (if i < 4 then Z 7 i else S 7 i) = _
        rw [if_pos hi]
      · show (if i < 4 then Z 8 i else S 8 i) = _
        rw [if_pos hi]
      · show (if i < 4 then Z 9 i else S 9 i) = _
        rw [if_pos hi]
      · show (if i < 4 then Z 10 i else S 10 i) = _
        rw [if_pos hi]
      · show (if i < 4 then Z 11 i else S 11 i) = _
        rw [if_pos hi]
    · rw [← hz]
      rcases hi with ⟨rfl, -⟩ | ⟨rfl, -⟩ | ⟨rfl, -⟩ | ⟨rfl, -⟩ | ⟨rfl, -⟩ | ⟨rfl, -⟩ <;> rfl
  · rw [← h.a i hi]
    show (if i < 16 then Z 3 i else S 3 i) = _
    rw [if_pos hi]
theorem lb_moves {z g : Nat} {F : Nat → Int32} {a b : Nat} (hz : z < 1000) (hg : g < 1000) (ha : a + 107 ≤ z) (hb : b + 107 ≤ g) : ∀ (r k n : Nat) (S : Nat → Int32), k + r = 107 → r < n → f8_moves_L3 z g F n (nI a) (nI b) (nI k) S = some (fun j => if b + k ≤ j ∧ j < b + 107 then F (a + (j - b)) else S j)
  | _, _, 0, _, _, h => by omega
  | 0, k, n + 1, S, hk, _ => by
    show f8_moves_b3 z g F _ (nI a) (nI b) (nI k) S = _
    unfold f8_moves_b3
    rw [show (107 : Int32) = nI 107 from rfl, if_pos (nI_le (by omega) (by omega))]
    congr 1; funext j; rw [if_neg (by omega)]
  | r + 1, k, n + 1, S, hk, hn => by
    show f8_moves_b3 z g F (f8_moves_L3 z g F n) (nI a) (nI b) (nI k) S = _
    unfold f8_moves_b3
    have hs : nI k + 1 = nI (k + 1) := (nI_succ k).symm
    rw [show (107 : Int32) = nI 107 from rfl, if_neg (nI_ge (by omega) (by omega)), lb_add, lb_add, lb_ck (by omega) (by omega), lb_ck (by omega) (by omega), lb_cl (by omega), lb_cl (by omega), hs, lb_moves hz hg ha hb r (k + 1) n _ (by omega) (by omega)]
    congr 1; funext j; unfold upd
    by_cases hj : j = b + k
    · subst hj; rw [if_neg (by omega), if_pos rfl, if_pos (by omega)]; congr 1; omega
    · rw [if_neg hj]
      by_cases h2 : b + (k + 1) ≤ j ∧ j < b + 107
      · rw [if_pos h2, if_pos (by omega)]
      · rw [if_neg h2, if_neg (by omega)]
def mb_mv (F : Nat → Int32) (a b : Nat) (S : Nat → Int32) : Nat → Int32 := fun j => if b ≤ j ∧ j < b + 107 then F (a + (j - b)) else S j
theorem lb_mv {z g : Nat} {F S : Nat → Int32} {a b : Nat} (hz : z < 1000) (hg : g < 1000) (ha : a + 107 ≤ z) (hb : b + 107 ≤ g) : f8_moves z g F (nI a) (nI b) S = some (mb_mv F a b S) :=
  lb_moves hz hg ha hb 107 0 1000 S rfl (by omega)
theorem lb_mvI {F S : Nat → Int32} {a b j : Nat} (hj : j < 107) : mb_mv F a b S (b + j) = F (a + j) := by
  unfold mb_mv; rw [if_pos (by omega)]; congr 1; omega
/-! the rules between calls -/
abbrev mb_J (P t : Nat) (T : Nat → Int32) : Prop := mb_I P t (9999 * P + 99 * t) (1188 * t) t T
theorem mb_J.turn {P t : Nat} {T : Nat → Int32} (h : mb_J P t T) (hP0 : 0 < P) (ht : t < 20000) : f8_turn T = some (mb_turn T) ∧ mb_J P (t + 1) (mb_turn T) := by
  have hP := h.P4
  obtain ⟨a, b⟩ := lb_turn8 h hP0 ht (by omega) (by omega) (by omega) (by omega)
  exact ⟨a, b.up (by omega) (by omega) (by omega) (by omega) (by omega) (by omega)⟩
theorem mb_J.turnC {P t : Nat} {S : ms_T} {T : Nat → Int32} (h : mb_J P t T) (hR : RB S T) (hP0 : 0 < P) (ht : t < 20000) : ∃ S', f0_takeTurn S = some S' ∧ RB S' (mb_turn T) := by
  have hP := h.P4
  exact lb_turnC h hR hP0 ht (by omega) (by omega) (by omega) (by omega)
def mb_turns : Nat → (Nat → Int32) → (Nat → Int32)
  | 0, T => T
  | n + 1, T => mb_turns n (mb_turn T)
theorem mb_J.turns {P : Nat} (hP0 : 0 < P) : ∀ (n t : Nat) (T : Nat → Int32), mb_J P t T → t + n ≤ 20000 → mb_J P (t + n) (mb_turns n T)
  | 0, _, _, h, _ => h
  | n + 1, t, T, h, hn => by
    have := mb_J.turns hP0 n (t + 1) (mb_turn T) (h.turn hP0 (by omega)).2 (by omega)
    rw [show t + 1 + n = t + (n + 1) by omega] at this
    exact this
/-! sums over the players -/
def mb_fo (g : Nat → Int32) : Nat → Nat → Int32 → Int32
  | 0, _, a => a
  | r + 1, k, a => mb_fo g r (k + 1) (a + g k)
theorem lb_foZ {g : Nat → Int32} : ∀ (r k : Nat) (a : Int32), (∀ j, k ≤ j → j < k + r → g j = 0) → mb_fo g r k a = a
  | 0, _, _, _ => rfl
  | r + 1, k, a, h => by
    show mb_fo g r (k + 1) (a + g k) = a
    rw [h k (by omega) (by omega), Int32.add_zero]
    exact lb_foZ r (k + 1) a (fun j h1 h2 => h j (by omega) (by omega))
theorem lb_fo4 (g : Nat → Int32) : mb_fo g 4 0 0 = g 0 + g 1 + g 2 + g 3 := by
  show 0 + g 0 + g 1 + g 2 + g 3 = _
  rw [Int32.zero_add]
theorem lb_foE {g h : Nat → Int32} : ∀ (r k : Nat) (a : Int32), (∀ j, k ≤ j → j < k + r → g j = h j) → mb_fo g r k a = mb_fo h r k a
  | 0, _, _, _ => rfl
  | r + 1, k, a, e => by
    show mb_fo g r (k + 1) (a + g k) = mb_fo h r (k + 1) (a + h k)
    rw [e k (by omega) (by omega)]
    exact lb_foE r (k + 1) _ (fun j h1 h2 => e j (by omega) (by omega))
theorem lb_sumL {T : Nat → Int32} {P c : Nat} (h6 : T 6 = nI P) (hP : P ≤ 4) (hc : c < 6) (pz : ∀ j, P ≤ j → j < 4 → T (51 + 6 * j + c) = 0) : ∀ (r k n : Nat) (a : Int32), k + r = 4 → r < n → f8_sumOf_L4 n (nI c) a (nI k) T = some (mb_fo (fun j => T (51 + 6 * j + c)) r k a)
  | _, _, 0, _, _, h => by omega
  | r, k, n + 1, a, hk, hn => by
    show f8_sumOf_b4 (f8_sumOf_L4 n) (nI c) a (nI k) T = _
    unfold f8_sumOf_b4
    rw [lb_k6, lb_c6, h6]
    by_cases hPk : P ≤ k
    · rw [if_pos (nI_le hPk (by omega)), lb_foZ r k a (fun j h1 h2 => pz j (by omega) (by omega))]
    · obtain ⟨r, rfl⟩ : ∃ r', r = r' + 1 := ⟨r - 1, by omega⟩
      have hs : nI k + 1 = nI (k + 1) := (nI_succ k).symm
      rw [if_neg (nI_ge (by omega) (by omega)), lb_part (by omega) hc, lb_bd, hs]
      exact lb_sumL h6 hP hc pz r (k + 1) n _ (by omega) (by omega)
def mb_s4 (T : Nat → Int32) (c : Nat) : Int32 := mb_fo (fun j => T (51 + 6 * j + c)) 4 0 0
theorem mb_I.sumOf {P t : Nat} {B C A : Int} {T : Nat → Int32} (h : mb_I P t B C A T) {c : Nat} (hc : c < 6) : f8_sumOf (nI c) T = some (mb_s4 T c) :=
  lb_sumL h.h6 h.P4 hc (fun j h1 h2 => h.pz _ (by omega) (by omega)) 4 0 1000 0 rfl (by omega)
theorem RB.sum {S : ms_T} {T : Nat → Int32} (h : RB S T) {c : Nat} (hc : c < 6) {v : Int32} : f6_sum v 4 (S (6 + c)) = some (mb_s4 T c) := by
  rw [lb_sum4, mb_s4, lb_fo4, h.p (by omega) hc, h.p (by omega) hc, h.p (by omega) hc, h.p (by omega) hc]
/-! turns -/
theorem lb_do8L {P N : Nat} (hP0 : 0 < P) (hN : N < 1000) {had : Int32} : ∀ (r k n t : Nat) (T : Nat → Int32), k + r = N → r < n → mb_J P t T → t + r ≤ 20000 → f8_doTurns_L8 n (nI N) had (nI k) T = some (mb_s4 (mb_turns r T) 2 - had, mb_turns r T)
  | _, _, 0, _, _, _, h, _, _ => by omega
  | 0, k, n + 1, t, T, hk, hn, h, ht => by
    show f8_doTurns_b8 _ (nI N) had (nI k) T = _
    unfold f8_doTurns_b8
    rw [if_pos (nI_le (by omega) (by omega)), show f8_sumOf (2 : Int32) T = some (mb_s4 T 2) from h.sumOf (c := 2) (by omega), lb_bd]; rfl
  | r + 1, k, n + 1, t, T, hk, hn, h, ht => by
    show f8_doTurns_b8 (f8_doTurns_L8 n) (nI N) had (nI k) T = _
    unfold f8_doTurns_b8
    have hs : nI k + 1 = nI (k + 1) := (nI_succ k).symm
    obtain ⟨a, b⟩ := h.turn hP0 (by omega)
    rw [if_neg (nI_ge (by omega) (by omega)), a, lb_bd, hs]
    exact lb_do8L hP0 hN r (k + 1) n (t + 1) _ (by omega) (by omega) b (by omega)
theorem mb_J.doTurns {P t N : Nat} {T : Nat → Int32} (h : mb_J P t T) (hP0 : 0 < P) (hN : N < 1000) (ht : t + N ≤ 20000) : f8_doTurns (nI N) T = some (mb_s4 (mb_turns N T) 2 - mb_s4 T 2, mb_turns N T) := by
  unfold f8_doTurns
  rw [show f8_sumOf (2 : Int32) T = some (mb_s4 T 2) from h.sumOf (c := 2) (by omega), lb_bd]
  exact lb_do8L hP0 hN N 0 1000 t T (by omega) (by omega) h ht
theorem lb_do0L {P N : Nat} (hP0 : 0 < P) (hN : N < 1000) {had : Int32} : ∀ (r k n t : Nat) (S : ms_T) (T : Nat → Int32), k + r = N → r < n → mb_J P t T → RB S T → t + r ≤ 20000 → ∃ S', f0_doTurns_L46 n (nI N) had (nI k) S = some (mb_s4 (mb_turns r T) 2 - had, S') ∧ RB S' (mb_turns r T)
  | _, _, 0, _, _, _, _, h, _, _, _ => by omega
  | 0, k, n + 1, t, S, T, hk, hn, h, hR, ht => by
    show ∃ S', f0_doTurns_b46 _ (nI N) had (nI k) S = some (mb_s4 T 2 - had, S') ∧ RB S' T
    unfold f0_doTurns_b46
    rw [if_pos (nI_le (by omega) (by omega)), show f6_sum 0 4 (S 8) = some (mb_s4 T 2) from hR.sum (c := 2) (by omega), lb_bd]
    exact ⟨S, rfl, hR⟩
  | r + 1, k, n + 1, t, S, T, hk, hn, h, hR, ht => by
    show ∃ S', f0_doTurns_b46 (f0_doTurns_L46 n) (nI N) had (nI k) S = some (mb_s4 (mb_turns r (mb_turn T)) 2 - had, S') ∧ RB S' (mb_turns r (mb_turn T))
    unfold f0_doTurns_b46
    have hs : nI k + 1 = nI (k + 1) := (nI_succ k).symm
    obtain ⟨a, b⟩ := h.turn hP0 (by omega)
    obtain ⟨S1, c, d⟩ := h.turnC hR hP0 (by omega)
    rw [if_neg (nI_ge (by omega) (by omega)), c, lb_bd, hs]
    exact lb_do0L hP0 hN r (k + 1) n (t + 1) _ _ (by omega) (by omega) b d (by omega)
theorem lb_takeL {P N : Nat} (hP0 : 0 < P) (hN : N < 1000) : ∀ (r k n t : Nat) (S : ms_T) (T : Nat → Int32), k + r = N → r < n → mb_J P t T → RB S T → t + r ≤ 20000 → ∃ S', f0_takeTurns_L2 n (nI N) (nI k) S = some S' ∧ RB S' (mb_turns r T)
  | _, _, 0, _, _, _, _, h, _, _, _ => by omega
  | 0, k, n + 1, t, S, T, hk, hn, h, hR, ht => by
    show ∃ S', f0_takeTurns_b2 _ (nI N) (nI k) S = some S' ∧ RB S' T
    unfold f0_takeTurns_b2
    rw [if_pos (nI_le (by omega) (by omega))]
    exact ⟨S, rfl, hR⟩
  | r + 1, k, n + 1, t, S, T, hk, hn, h, hR, ht => by
    show ∃ S', f0_takeTurns_b2 (f0_takeTurns_L2 n) (nI N) (nI k) S = some S' ∧ RB S' (mb_turns r (mb_turn T))
    unfold f0_takeTurns_b2
    have hs : nI k + 1 = nI (k + 1) := (nI_succ k).symm
    obtain ⟨a, b⟩ := h.turn hP0 (by omega)
    obtain ⟨S1, c, d⟩ := h.turnC hR hP0 (by omega)
    rw [if_neg (nI_ge (by omega) (by omega)), c, lb_bd, hs]
    exact lb_takeL hP0 hN r (k + 1) n (t + 1) _ _ (by omega) (by omega) b d (by omega)
theorem mb_J.take {P t N : Nat} {S : ms_T} {T : Nat → Int32} (h : mb_J P t T) (hR : RB S T) (hP0 : 0 < P) (hN : N < 1000) (ht : t + N ≤ 20000) : ∃ S', f0_takeTurns (nI N) S = some S' ∧ RB S' (mb_turns N T) :=
  lb_takeL hP0 hN N 0 1000 t S T (by omega) (by omega) h hR ht
/-! numbers that come from outside -/
theorem lb_within {v : Int32} {a b : Nat} (ha : a < 2 ^ 31) (hb : b < 2 ^ 31) : (f8_within v (nI a) (nI b) = some 0 ∧ (v < nI a ∨ ¬ v ≤ nI b)) ∨ (f8_within v (nI a) (nI b) = some 1 ∧ ¬ v < nI a ∧ v ≤ nI b ∧ ∃ n, v = nI n ∧ a ≤ n ∧ n ≤ b) := by
  unfold f8_within
  by_cases h1 : v < nI a
  · rw [if_pos h1]; exact Or.inl ⟨rfl, Or.inl h1⟩
  · rw [if_neg h1]
    by_cases h2 : nI b < v
    · rw [if_pos h2]; exact Or.inl ⟨rfl, Or.inr (lb_nle.mpr h2)⟩
    · rw [if_neg h2]
      refine Or.inr ⟨rfl, h1, lb_nlt.mp h2, ?_⟩
      rw [lb_lt, nI_toInt ha] at h1
      rw [lb_lt, nI_toInt hb] at h2
      obtain ⟨n, hn, e, ei⟩ := lb_nat (a := v) (by omega)
      exact ⟨n, e, by omega, by omega⟩
theorem lb_lt0n (v : Int32) : v < 0 ∨ ∃ n : Nat, n < 2 ^ 31 ∧ v = nI n ∧ ¬ v < 0 := by
  by_cases h : v < 0
  · exact Or.inl h
  · rw [lb_lt0] at h
    obtain ⟨n, hn, e, ei⟩ := lb_nat (a := v) (by omega)
    exact Or.inr ⟨n, hn, e, by rw [lb_lt0]; omega⟩
theorem mb_I.isPlayer {P t : Nat} {B C A : Int} {T : Nat → Int32} (h : mb_I P t B C A T) (v : Int32) : (f8_isPlayer v T = some 0 ∧ ¬ ∃ p, p < P ∧ v = nI p) ∨ ∃ p, p < P ∧ v = nI p ∧ f8_isPlayer v T = some 1 := by
  have hP := h.P4
  unfold f8_isPlayer
  rw [lb_k6, lb_c6, h.h6]
  have e : nI P - 1 < 0 ∧ P = 0 ∨ ∃ m, P = m + 1 ∧ nI P - 1 = nI m := by
    by_cases h0 : P = 0
    · subst h0; exact Or.inl ⟨by decide, rfl⟩
    · exact Or.inr ⟨P - 1, by omega, by rw [show P = (P - 1) + 1 by omega]; exact lb_sub1⟩
  rcases e with ⟨e, e0⟩ | ⟨m, e0, e⟩
  · left
    refine ⟨?_, ?_⟩
    · unfold f8_within
      by_cases h1 : v < 0
      · rw [if_pos h1]; rfl
      · rw [if_neg h1, if_pos (by rw [lb_lt] at e h1 ⊢; omega)]; rfl
    · rintro ⟨p, hp, -⟩; omega
  · rw [e]
    rcases lb_within (v := v) (a := 0) (b := m) (by omega) (by omega) with ⟨h1, h2⟩ | ⟨h1, h2, h3, n, h4, h5, h6⟩
    · left
      have h1' : f8_within v (0 : Int32) (nI m) = some 0 := h1
      refine ⟨by rw [h1']; rfl, ?_⟩
      rintro ⟨p, hp, rfl⟩
      rcases h2 with h2 | h2
      · exact nI_pos (by omega) h2
      · exact h2 (nI_le (by omega) (by omega))
    · right
      have h1' : f8_within v (0 : Int32) (nI m) = some 1 := h1
      exact ⟨n, by omega, h4, by rw [h1']; rfl⟩
theorem lb_hasP {P : Nat} {S : ms_T} {T : Nat → Int32} (hR : RB S T) (h6 : T 6 = nI P) (hP : P ≤ 4) (v : Int32) : (f0_hasPlayer v S = some 0 ∧ ¬ ∃ p, p < P ∧ v = nI p) ∨ ∃ p, p < P ∧ v = nI p ∧ f0_hasPlayer v S = some 1 := by
  unfold f0_hasPlayer
  rw [hR.z.1, h6]
  rcases lb_lt0n v with h | ⟨n, hn, e, h⟩
  · rw [if_pos h]
    left
    refine ⟨rfl, ?_⟩
    rintro ⟨p, hp, rfl⟩
    exact nI_pos (by omega) h
  · rw [if_neg h]
    by_cases h1 : P ≤ n
    · rw [e, if_pos (nI_le h1 hn)]
      left
      refine ⟨rfl, ?_⟩
      rintro ⟨p, hp, h2⟩
      rw [lb_inj hn (by omega)] at h2
      omega
    · rw [e, if_neg (nI_ge (by omega) (by omega))]
      exact Or.inr ⟨n, by omega, rfl, rfl⟩
