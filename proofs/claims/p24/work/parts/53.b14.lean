/-! ## Layer B: nothing behind the row is touched -/
theorem lb_pdHi {p : Nat} (hp : p < 4) {j : Nat} (hj : 107 ≤ j) : ∀ (k : Nat) (T : Nat → Int32), mb_pd k T p j = T j
  | 0, _ => rfl
  | k + 1, T => by
    show (if T (51 + 6 * p) ≤ 0 then T else if mb_old T p 0 = -6 then T else mb_pd k (mb_payOne T p (mb_old T p 0).toNatClampNeg) p) j = T j
    split
    · rfl
    · split
      · rfl
      · next h1 =>
        rcases lb_oldC T p 0 with ⟨h2, -⟩ | ⟨q, hq, h2, -, -⟩
        · exact absurd h2 h1
        · rw [lb_pdHi hp hj k, h2, lb_cl (by omega)]
          unfold mb_payOne mb_pay
          rw [lb_addDn (by omega) (by omega), lb_an (by omega), lb_an (by omega), lb_an (by omega), lb_an (by omega)]
theorem lb_goesHi {T : Nat → Int32} {p : Nat} (hp : p < 4) {j : Nat} (hj : 107 ≤ j) : mb_goes T p j = T j := by
  unfold mb_goes mb_goesX mb_add
  split
  · rw [lb_un (by omega), lb_un (by omega), lb_un (by omega)]
  · rw [lb_un (by omega), lb_un (by omega), lb_un (by omega), lb_un (by omega), lb_un (by omega)]
theorem lb_ptHi {T : Nat → Int32} {p q : Nat} {c : Int32} (hp : p < 4) (hq : q < 4) {j : Nat} (hj : 107 ≤ j) : mb_pt T p q c j = T j := by
  have e : ∀ x, mb_pay T p q x j = T j := fun x => by
    unfold mb_pay
    rw [lb_an (by omega), lb_an (by omega), lb_an (by omega), lb_an (by omega)]
  unfold mb_pt
  split
  · exact e _
  · rw [lb_addDn (by omega) (by omega)]; exact e _
theorem lb_claimsHi {P t : Nat} {B C A : Int} {T : Nat → Int32} (h : mb_I P t B C A T) {p s : Nat} (hp : p < 4) (hs : s < 20) {j : Nat} (hj : 107 ≤ j) : mb_claims T p s j = T j := by
  have hP := h.P4
  have e : ∀ x, upd T 8 x j = T j := fun x => lb_un (by omega)
  unfold mb_claims
  split
  · exact e _
  · split
    · unfold mb_took
      split
      · rw [lb_un (by omega), lb_un (by omega), lb_an (by omega)]; exact e _
      · next h1 =>
        rw [lb_un (show 11 + s ≠ 8 by omega)] at h1
        rcases h.fo s hs with h2 | ⟨q, hq, h2⟩
        · exact absurd h2 h1
        · rw [lb_un (show 11 + s ≠ 8 by omega), h2, lb_cl (by omega), lb_an (by omega), lb_un (by omega), lb_an (by omega)]; exact e _
    · exact e _
theorem lb_arrHi {P t : Nat} {B C A : Int} {T : Nat → Int32} (h : mb_I P t B C A T) {p s : Nat} (hp : p < P) (hs : s < 20) {j : Nat} (hj : 107 ≤ j) : mb_arr T p s j = T j := by
  have hP := h.P4
  have e : (if ¬ mb_owns T p s ∧ mb_free T s then mb_claims T p s else T) j = T j := by
    split
    · exact lb_claimsHi h (by omega) hs hj
    · rfl
  have i : mb_I P t B C A (if ¬ mb_owns T p s ∧ mb_free T s then mb_claims T p s else T) := by
    split
    · next hh => exact h.claims hp hs hh.2 hh.1
    · exact h
  unfold mb_arr
  generalize (if ¬ mb_owns T p s ∧ mb_free T s then mb_claims T p s else T) = U at e i
  rw [← e]
  unfold mb_tolls
  split
  · next h1 =>
    rcases i.fo s hs with h2 | ⟨q, hq, h2⟩
    · exact absurd h2 h1.2
    · rw [h2, lb_cl (by omega)]
      split
      · exact lb_ptHi (by omega) (by omega) hj
      · next h3 =>
        rcases i.se s hs with h4 | ⟨-, ⟨b, hb, h4⟩, -, -⟩
        · exact absurd h4 h3
        · rw [h4, lb_cl (by omega), lb_ptHi (by omega) (by omega) hj, lb_ptHi (by omega) (by omega) hj]
  · rfl
theorem lb_loseHi {p : Nat} (hp : p < 4) {j : Nat} (hj : 107 ≤ j) : ∀ (k : Nat) (T : Nat → Int32), mb_lose k T p j = T j
  | 0, _ => rfl
  | k + 1, T => by
    show (if mb_old T p 0 = -6 then T else if T 4 < T (91 + 4 * p + (mb_old T p 0).toNatClampNeg) then (if mb_low T p = -6 then T else mb_lose k (mb_loseOne T p (mb_old T p 0).toNatClampNeg (mb_low T p).toNatClampNeg) p) else T) j = T j
    split
    · rfl
    · next h1 =>
      split
      · split
        · rfl
        · next h2 =>
          rcases lb_oldC T p 0 with ⟨h3, -⟩ | ⟨q, hq, h3, -, -⟩
          · exact absurd h3 h1
          · rcases lb_lwC (T := T) (p := p) 20 0 rfl with h4 | ⟨s, hs, h4, -⟩
            · exact absurd h4 h2
            · rw [lb_loseHi hp hj k, h3, show mb_low T p = nI s from h4, lb_cl (by omega), lb_cl (by omega)]
              unfold mb_loseOne
              rw [lb_an (by omega), lb_addDn (by omega) (by omega), lb_handOld (by omega) hs]
      · rfl
theorem mb_J.turnHi {P t : Nat} {T : Nat → Int32} (h : mb_J P t T) (hP0 : 0 < P) {j : Nat} (hj : 107 ≤ j) : mb_turn T j = T j := by
  have hP := h.P4
  have ht := h.t9
  obtain ⟨p, h7, hp⟩ := h.h7
  have hp : p < P := by omega
  have e : mb_turn T = mb_turnP T p P t := by
    unfold mb_turn; rw [h7, h.h6, h.h5, lb_cl (by omega), lb_cl (by omega), lb_cl (by omega)]
  rw [e]
  obtain ⟨a1, i1⟩ := lb_pd8 (by omega) (p := p) (by omega) h
  obtain ⟨a2, i2⟩ := lb_goes8 i1 hp (by omega)
  obtain ⟨s, hs, hs2⟩ := i2.pl' (p := p) (by omega)
  unfold mb_turnP mb_place
  rw [hs2, lb_cl (by omega), lb_un (by omega), lb_un (by omega), lb_an (by omega), lb_loseHi (by omega) hj]
  unfold mb_older
  rw [lb_olOld 4 0 _ j (by omega), lb_arrHi i2 hp hs hj, lb_goesHi (by omega) hj, lb_pdHi (by omega) hj]
theorem mb_J.turnsHi {P : Nat} (hP0 : 0 < P) {j : Nat} (hj : 107 ≤ j) : ∀ (n t : Nat) (T : Nat → Int32), mb_J P t T → t + n ≤ 20000 → mb_turns n T j = T j
  | 0, _, _, _, _ => rfl
  | n + 1, t, T, h, hn => by
    show mb_turns n (mb_turn T) j = T j
    rw [mb_J.turnsHi hP0 hj n (t + 1) (mb_turn T) (h.turn hP0 (by omega)).2 (by omega)]
    exact h.turnHi hP0 hj
/-! ## the two sides -/
abbrev mb_S (B : ms_T) (T : Nat → Int32) : Prop := ∃ P t, t ≤ 9999 ∧ mb_J P t T ∧ RB B T
theorem mb_S.congr {B : ms_T} {T T' : Nat → Int32} (h : mb_S B T) (e : ∀ i, i < 107 → T' i = T i) : mb_S B T' := by
  obtain ⟨P, t, ht, hJ, hR⟩ := h
  exact ⟨P, t, ht, hJ.congr e, hR.congr e⟩
abbrev mb_H (X : xs_T) (S : ms_T) : Prop := ∃ f k, f < 7 ∧ k ≤ 6 ∧ X 2 0 0 = nI f ∧ X 2 0 1 = nI k ∧ S 8 0 = nI k ∧ ∀ j, j < k → mb_S (X (7 + (f + 7 - k + j) % 7)) (fun i => S 2 (107 * j + i))
abbrev mb_L (X : xs_T) (S : ms_T) : Prop := ∀ s, s < 2 → (X 1 0 s = 0 ∧ S 4 s = 0) ∨ (X 1 0 s ≠ 0 ∧ S 4 s ≠ 0 ∧ mb_S (X (14 + s)) (fun i => S 3 (107 * s + i)))
abbrev mb_D (X : xs_T) (S : ms_T) : Prop := ∃ L, L ≤ 80 ∧ X 3 1 0 = nI L ∧ S 8 1 = nI L ∧ ∀ i, i < L → X 3 0 i = S 5 i
abbrev RR (X : xs_T) (S : ms_T) : Prop := mb_S (X 5) (S 0) ∧ mb_H X S ∧ mb_L X S ∧ mb_D X S
theorem lb_xs (X : xs_T) (k : Nat) (B : ms_T) : xs_set X k B k = B := by unfold xs_set; rw [if_pos rfl]
theorem lb_xn {X : xs_T} {k j : Nat} {B : ms_T} (h : j ≠ k) : xs_set X k B j = X j := by unfold xs_set; rw [if_neg h]
theorem lb_xx (X : xs_T) (k : Nat) (B D : ms_T) : xs_set (xs_set X k B) k D = xs_set X k D := by
  funext j; unfold xs_set; split <;> rfl
/-- where only the trial board, and the reference's rows 0 (behind its 107), 1, 6, 7 and some numbers change -/
theorem RR.trial {X : xs_T} {S S' : ms_T} (h : RR X S) {B : ms_T} (e0 : ∀ i, i < 107 → S' 0 i = S 0 i) (e : ∀ k, k = 2 ∨ k = 3 ∨ k = 4 ∨ k = 5 → S' k = S k) (e8 : S' 8 0 = S 8 0 ∧ S' 8 1 = S 8 1) : RR (xs_set X 6 B) S' := by
  obtain ⟨h1, ⟨f, k, hf, hk, a1, a2, a3, a4⟩, h3, ⟨L, b0, b1, b2, b3⟩⟩ := h
  refine ⟨?_, ⟨f, k, hf, hk, ?_, ?_, ?_, ?_⟩, ?_, ⟨L, b0, ?_, ?_, ?_⟩⟩
  · rw [lb_xn (by omega)]; exact h1.congr e0
  · rw [lb_xn (by omega)]; exact a1
  · rw [lb_xn (by omega)]; exact a2
  · rw [e8.1]; exact a3
  · intro j hj
    rw [lb_xn (by omega), e 2 (by omega)]; exact a4 j hj
  · intro s hs
    rw [lb_xn (by omega), lb_xn (by omega), e 3 (by omega), e 4 (by omega)]; exact h3 s hs
  · rw [lb_xn (by omega)]; exact b1
  · rw [e8.2]; exact b2
  · intro i hi
    rw [lb_xn (by omega), e 5 (by omega)]; exact b3 i hi
/-! ## what if -/
def mb_em (p : Nat) : Nat → Nat → (Nat → Int32) → Int32
  | 0, k, T => if T (51 + 6 * p) = 0 then nI k else -6
  | r + 1, k, T => if T (51 + 6 * p) = 0 then nI k else mb_em p r (k + 1) (mb_turn T)
theorem lb_em8L {P p : Nat} (hp : p < P) (hP : P ≤ 4) : ∀ (r k n t : Nat) (S : ms_T), k + r = 400 → r < n → mb_J P t (S 0) → t + r ≤ 20000 → ∃ S', f8_emptyIn_L25 n (nI p) (nI k) S = some (mb_em p r k (S 0), S') ∧ (∀ i, i < 107 → S' 0 i = S 1 i) ∧ ∀ j, j ≠ 0 → S' j = S j
  | _, _, 0, _, _, _, h, _, _ => by omega
  | r, k, n + 1, t, S, hk, hn, h, ht => by
    have fin : ∀ v, ∃ S', f8_emptyIn_b66 v S = some (v, S') ∧ (∀ i, i < 107 → S' 0 i = S 1 i) ∧ ∀ j, j ≠ 0 → S' j = S j := by
      intro v
      unfold f8_emptyIn_b66
      rw [show f8_moves 107 107 (S 1) 0 0 (S 0) = some (mb_mv (S 1) 0 0 (S 0)) from lb_mv (a := 0) (b := 0) (by omega) (by omega) (by omega) (by omega), lb_bd]
      refine ⟨_, rfl, ?_, fun j hj => lb_mn hj⟩
      intro i hi
      rw [lb_ms]
      have := lb_mvI (F := S 1) (S := S 0) (a := 0) (b := 0) hi
      rw [Nat.zero_add] at this
      exact this
    have pp := h.pu p (by omega)
    show ∃ S', f8_emptyIn_b25 (f8_emptyIn_L25 n) (nI p) (nI k) S = some (mb_em p r k (S 0), S') ∧ _
    unfold f8_emptyIn_b25 f8_emptyIn_b51
    rw [lb_part0 (by omega), lb_bd, lb_bd]
    by_cases c1 : S 0 (51 + 6 * p) = 0
    · have e : mb_em p r k (S 0) = nI k := by
        cases r with
        | zero => show (if S 0 (51 + 6 * p) = 0 then nI k else -6) = nI k; rw [if_pos c1]
        | succ r => show (if S 0 (51 + 6 * p) = 0 then nI k else _) = nI k; rw [if_pos c1]
      rw [e, if_pos (show S 0 (51 + 6 * p) ≤ 0 by rw [c1]; decide), if_pos c1]
      exact fin _
    · have c1' : ¬ S 0 (51 + 6 * p) ≤ 0 := by rw [lb_le0]; rw [lb_eq0] at c1; omega
      rw [if_neg c1', if_neg c1]
      cases r with
      | zero =>
        have hk4 : k = 400 := by omega
        subst hk4
        rw [if_pos (show (400 : Int32) ≤ nI 400 by decide)]
        have e : mb_em p 0 400 (S 0) = -6 := by show (if S 0 (51 + 6 * p) = 0 then nI 400 else -6) = -6; rw [if_neg c1]
        rw [e]
        exact fin _
      | succ r =>
        rw [if_neg (show ¬ (400 : Int32) ≤ nI k from nI_ge (b := 400) (by omega) (by omega))]
        obtain ⟨a, b⟩ := h.turn (by omega) (by omega)
        have hs : nI k + 1 = nI (k + 1) := (nI_succ k).symm
        have e : mb_em p (r + 1) k (S 0) = mb_em p r (k + 1) (mb_turn (S 0)) := by show (if S 0 (51 + 6 * p) = 0 then nI k else _) = _; rw [if_neg c1]
        rw [a, lb_bd, hs, e]
        obtain ⟨S', u1, u2, u3⟩ := lb_em8L hp hP r (k + 1) n (t + 1) (ms_set S 0 (mb_turn (S 0))) (by omega) (by omega) (by rw [lb_ms]; exact b) (by omega)
        rw [lb_ms] at u1
        refine ⟨S', u1, ?_, ?_⟩
        · intro i hi; rw [u2 i hi, lb_mn (by omega)]
        · intro j hj; rw [u3 j hj, lb_mn hj]
theorem lb_em7L {P p : Nat} (hp : p < P) (hP : P ≤ 4) : ∀ (r k n t : Nat) (X : xs_T) (T : Nat → Int32), k + r = 400 → r + 1 < n → mb_J P t T → RB (X 6) T → t + r < 20000 → ∃ B, f7_emptyIn_L26 n (nI p) (nI k) X = some (mb_em p r k T, xs_set X 6 B)
  | _, _, 0, _, _, _, _, h, _, _, _ => by omega
  | r, k, n + 1, t, X, T, hk, hn, h, hR, ht => by
    show ∃ B, f7_emptyIn_b26 (f7_emptyIn_L26 n) (nI p) (nI k) X = _
    have e0 : X 6 6 p = T (51 + 6 * p) := hR.p (k := 0) (by omega) (by omega)
    have ep : f0_purseOf (nI p) (X 6) = some (T (51 + 6 * p)) := by
      unfold f0_purseOf; rw [lb_at (by omega) (by omega), lb_bd, e0]
    unfold f7_emptyIn_b26
    rw [if_neg (show ¬ (400 : Int32) < nI k from nI_nlt (a := 400) (by omega) (by omega)), ep, lb_bd]
    have self : xs_set X 6 (X 6) = X := by
      funext j; unfold xs_set; split
      · next h => rw [h]
      · rfl
    by_cases c1 : T (51 + 6 * p) = 0
    · have e : mb_em p r k T = nI k := by
        cases r with
        | zero => show (if T (51 + 6 * p) = 0 then nI k else -6) = nI k; rw [if_pos c1]
        | succ r => show (if T (51 + 6 * p) = 0 then nI k else _) = nI k; rw [if_pos c1]
      rw [e, if_pos c1]
      exact ⟨X 6, by rw [self]⟩
    · rw [if_neg c1]
      obtain ⟨S1, c, d⟩ := h.turnC hR (by omega) (by omega)
      have hs : nI k + 1 = nI (k + 1) := (nI_succ k).symm
      rw [c, lb_bd, hs]
      cases r with
      | zero =>
        have hk4 : k = 400 := by omega
        subst hk4
        have e : mb_em p 0 400 T = -6 := by show (if T (51 + 6 * p) = 0 then nI 400 else -6) = -6; rw [if_neg c1]
        rw [e]
        obtain ⟨n, rfl⟩ : ∃ n', n = n' + 1 := ⟨n - 1, by omega⟩
        refine ⟨S1, ?_⟩
        show f7_emptyIn_b26 (f7_emptyIn_L26 n) (nI p) (nI 401) (xs_set X 6 S1) = _
        unfold f7_emptyIn_b26
        rw [if_pos (show (400 : Int32) < nI 401 by decide)]
      | succ r =>
        have e : mb_em p (r + 1) k T = mb_em p r (k + 1) (mb_turn T) := by show (if T (51 + 6 * p) = 0 then nI k else _) = _; rw [if_neg c1]
        rw [e]
        obtain ⟨B, u⟩ := lb_em7L hp hP r (k + 1) n (t + 1) (xs_set X 6 S1) _ (by omega) (by omega) (h.turn (by omega) (by omega)).2 (by rw [lb_xs]; exact d) (by omega)
        rw [lb_xx] at u
        exact ⟨B, u⟩
theorem lb_emptyIn {X : xs_T} {S : ms_T} (h : RR X S) (v : Int32) : ∃ r X' S', f7_emptyIn v X = some (r, X') ∧ f8_emptyIn v S = some (r, S') ∧ RR X' S' := by
  have hh := h
  obtain ⟨⟨P, t, ht, hJ, hR⟩, -, -, -⟩ := hh
  have hP := hJ.P4
  unfold f7_emptyIn f8_emptyIn
  rcases hJ.isPlayer v with ⟨a1, a2⟩ | ⟨p, hp, rfl, a1⟩
  · rcases lb_hasP hR hJ.h6 hP v with ⟨b1, -⟩ | ⟨p, hp, e, -⟩
    · rw [a1, b1]; exact ⟨_, X, S, rfl, rfl, h⟩
    · exact absurd ⟨p, hp, e⟩ a2
  · rcases lb_hasP hR hJ.h6 hP (nI p) with ⟨-, b1⟩ | ⟨p', hp', e, b1⟩
    · exact absurd ⟨p, hp, rfl⟩ b1
    · obtain ⟨B, c1, c2⟩ := lb_copyB (S := X 6) hR
      rw [a1, b1, lb_bd, lb_bd, if_neg (show ¬ (1 : Int32) = 0 by decide), if_neg (show ¬ (1 : Int32) = 0 by decide), c1, lb_bd, show f8_moves 107 107 (S 0) 0 0 (S 1) = some (mb_mv (S 0) 0 0 (S 1)) from lb_mv (a := 0) (b := 0) (by omega) (by omega) (by omega) (by omega), lb_bd]
      obtain ⟨B2, u⟩ := lb_em7L hp hP 400 0 1000 t (xs_set X 6 B) (S 0) rfl (by omega) hJ (by rw [lb_xs]; exact c2) (by omega)
      obtain ⟨S', w1, w2, w3⟩ := lb_em8L hp hP 400 0 1000 t (ms_set S 1 (mb_mv (S 0) 0 0 (S 1))) rfl (by omega) (by rw [lb_mn (by omega)]; exact hJ) (by omega)
      rw [lb_mn (by omega)] at w1
      rw [lb_xx] at u
      refine ⟨_, _, S', u, w1, ?_⟩
      refine h.trial ?_ ?_ ?_
      · intro i hi
        rw [w2 i hi, lb_ms]
        have := lb_mvI (F := S 0) (S := S 1) (a := 0) (b := 0) hi
        rw [Nat.zero_add] at this
        exact this
      · intro k hk; rw [w3 k (by omega), lb_mn (by omega)]
      · rw [w3 8 (by omega), lb_mn (by omega)]; exact ⟨rfl, rfl⟩
