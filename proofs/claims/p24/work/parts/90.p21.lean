/-! ## The law: one act -/
section ACT
variable {L : Nat} {xs : Nat → Int32} {v12 v13 v14 : Int32}
abbrev AG (f : Option ys_T) (D Q : Nat) : Prop := ∃ X' Z1 Z2 S' P t, f = some (X', Z1, Z2) ∧ RR X' S' ∧ RG Z1 (S' 0) ∧ mb_J P t (S' 0) ∧ KD (S' 0) t ∧ t ≤ D ∧ Q ≤ P
theorem al_533 {X : xs_T} {S : ms_T} {Z : ms_T × ms_T} {P t D Q : Nat} (h : RR X S) (hR : RG Z.1 (S 0)) (hJ : mb_J P t (S 0)) (hK : KD (S 0) t) (hP0 : 0 < P) (ht : t ≤ D) (hD : D ≤ 2376) (hQ : Q ≤ P) : AG (f9_law_b533 L xs v12 v13 v14 (X, Z)) D Q := by
  obtain ⟨X1, S1, f1, h1, z1⟩ := as_same hJ hR h
  rw [← z1] at hR hJ hK
  obtain ⟨r, hr, l1⟩ := ga_low (v14 >>> ((9 : Int32) &&& 31)) (n := 5) (by omega) (by omega)
  obtain ⟨X2, Z2, f2, h2⟩ := ga_would hJ hP0 (by omega) hR h1 (v13 >>> ((2 : Int32) &&& 31))
  unfold f9_law_b533 f9_law_b591
  rw [f1, lb_bd, if_neg (show ¬ (1 : Int32) = 0 by decide), show (5 : Int32) = nI 5 from rfl, l1, lb_bd]
  by_cases c : nI r = 0
  · rw [if_pos c, f2, lb_bd, if_neg (show ¬ (1 : Int32) = 0 by decide)]
    exact ⟨X2, Z.1, Z2, S1, P, t, rfl, h2, hR, hJ, hK, ht, hQ⟩
  · rw [if_neg c]
    exact ⟨X1, Z.1, Z.2, S1, P, t, rfl, h1, hR, hJ, hK, ht, hQ⟩
theorem al_202 {X : xs_T} {S : ms_T} {Z : ms_T × ms_T} {P t D Q : Nat} (h : RR X S) (hR : RG Z.1 (S 0)) (hJ : mb_J P t (S 0)) (hK : KD (S 0) t) (hP : P < 4) (ht : t ≤ D) (hD : D ≤ 2376) (hQ : Q ≤ P + 1) {m : Nat} (hm : 0 < m) (hm2 : m ≤ 500) (v : Int32) : AG (f9_law_b202 L xs v12 v13 v14 v (nI m) (X, Z)) D Q := by
  obtain ⟨r, hr, l1⟩ := ga_low v hm (by omega)
  obtain ⟨q1, S', g1, d1, h1, z1⟩ := ac_player h hJ hP (r := r) (by omega)
  have e06 : Z.1 0 6 = nI P := (hR.q (i := 6) (by omega)).trans hJ.h6
  have r1 := hR.set1 (i := 6 * P) (by omega) (nI r)
  have r2 := r1.set0 (i := 6) (by omega) (nI (P + 1))
  have hz6 : S' 0 6 = nI (P + 1) := by rw [z1, lb_us]
  have hz5 : S' 0 5 = nI t := by rw [z1, lb_un (by omega), lb_un (by omega)]; exact hJ.h5
  have hJ' := ac_J h1 hz6 hz5 (by omega) (by omega)
  have hK' : KD (S' 0) t := hK.le (fun i hi => by rw [z1, lb_un (by omega), lb_un (by omega)]; omega) (by rw [z1, lb_un (by omega), lb_un (by omega)]) (fun p hp => by rw [z1, lb_un (by omega), lb_un (by omega)])
  unfold f9_law_b202
  rw [l1, lb_bd, ga_k6, lb_c6, show (X, Z).2.1 0 6 = nI P from e06, ga_6, lb_ck (by omega) (by omega), lb_bd, lb_cl (by omega), g1, lb_bd, ga_k6, ga_k6, lb_bd]
  have e06' : ms_set Z.1 1 (upd (Z.1 1) (6 * P) (nI r)) 0 6 = nI P := by rw [lb_mn (by decide)]; exact e06
  rw [show (q1.2, (X, ms_set Z.1 1 (upd (Z.1 1) (6 * P) (nI r)), Z.2).2).2.1 0 6 = nI P from e06', if_pos d1, ga_p1]
  refine al_533 (Z := (ms_set (ms_set Z.1 1 (upd (Z.1 1) (6 * P) (nI r))) 0 (upd (ms_set Z.1 1 (upd (Z.1 1) (6 * P) (nI r)) 0) 6 (nI (P + 1))), Z.2)) h1 ?_ hJ' hK' (by omega) ht hD hQ
  rw [z1]
  exact r2
theorem al_284 {X : xs_T} {S : ms_T} {P N D Q : Nat} (h : RR X S) (hP2 : 2 ≤ P) (h1N : 1 ≤ N) (hN : N ≤ 99) (hD : D ≤ 2376) (hQ : Q ≤ P) {t : Nat} (hJ : mb_J P t (S 0)) (hK : KD (S 0) t) (ht : t + N ≤ D) : ∀ (r k n : Nat) (B Z2 : ms_T) (U : Nat → Int32), k + r = N → r < n → RG B U → mb_J P (t + k) U → mb_turns r U = mb_turns N (S 0) →
    AG (f9_law_L284 L xs n v12 v13 v14 (nI N) (mb_s4 (S 0) 2) (nI k) (X, B, Z2)) D Q
  | r, k, 0, _, _, _, _, hn, _, _, _ => by omega
  | 0, k, n + 1, B, Z2, U, hk, _, hR, _, hU => by
    have hU : U = mb_turns N (S 0) := hU
    subst hU
    obtain ⟨q1, S', g1, d1, h1, z1⟩ := ac_go h hJ (by omega) h1N hN (by omega)
    have hJn := mb_J.turns (show 0 < P by omega) N t (S 0) hJ (by omega)
    have hKn := hK.turns hP2 N t (S 0) hJ (by omega)
    rw [← z1] at hR hJn hKn d1
    show AG (f9_law_b284 L xs (f9_law_L284 L xs n) v12 v13 v14 (nI N) (mb_s4 (S 0) 2) (nI k) (X, B, Z2)) D Q
    unfold f9_law_b284
    rw [if_pos (nI_le (by omega) (by omega)), g1, lb_bd, ga_paid (B := (q1.2, (X, B, Z2).2).2.1) hR, lb_bd, if_pos d1]
    exact al_533 (Z := (B, Z2)) h1 hR hJn hKn (by omega) ht hD hQ
  | r + 1, k, n + 1, B, Z2, U, hk, hn, hR, hJU, hU => by
    obtain ⟨B1, f1, r1⟩ := ga_turnJ hJU hR (by omega) (by omega)
    show AG (f9_law_b284 L xs (f9_law_L284 L xs n) v12 v13 v14 (nI N) (mb_s4 (S 0) 2) (nI k) (X, B, Z2)) D Q
    unfold f9_law_b284
    rw [if_neg (nI_ge (by omega) (by omega)), f1, lb_bd, ga_p1]
    exact al_284 h hP2 h1N hN hD hQ hJ hK ht r (k + 1) n B1 Z2 (mb_turn U) (by omega) (by omega) r1 (hJU.turn (by omega) (by omega)).2 hU
theorem al_269 {X : xs_T} {S : ms_T} {Z : ms_T × ms_T} {P t D Q : Nat} (h : RR X S) (hR : RG Z.1 (S 0)) (hJ : mb_J P t (S 0)) (hK : KD (S 0) t) (hP2 : 2 ≤ P) (ht : t + 99 ≤ D) (hD : D ≤ 2376) (hQ : Q ≤ P) {m : Nat} (hm : 0 < m) (hm2 : m ≤ 99) (v : Int32) : AG (f9_law_b269 L xs v12 v13 v14 1 v (nI m) (X, Z)) D Q := by
  obtain ⟨r, hr, l1⟩ := ga_low v hm (by omega)
  have hfu : 1 + r < fo_fu := by show 1 + r < 1000; omega
  unfold f9_law_b269
  rw [l1, lb_bd, ga_paid (B := (X, Z).2.1) hR, lb_bd, ga_1p]
  exact al_284 (N := 1 + r) h hP2 (by omega) (by omega) hD hQ hJ hK (by omega) (1 + r) 0 fo_fu Z.1 Z.2 (S 0) (by omega) hfu hR hJ rfl
theorem al_508 {X : xs_T} {S : ms_T} {Z : ms_T × ms_T} {P t D Q : Nat} (h : RR X S) (hR : RG Z.1 (S 0)) (hJ : mb_J P t (S 0)) (hK : KD (S 0) t) (hP0 : 0 < P) (ht : t ≤ D) (hD : D ≤ 2376) (hQ : Q ≤ P) {c n : Nat} (hc : (c = 0 ∧ n ≤ 99) ∨ ((c = 1 ∨ c = 2) ∧ 1 ≤ n ∧ n ≤ 99) ∨ (c = 3 ∧ 1 ≤ n ∧ n ≤ 7) ∨ (c = 4 ∧ 1 ≤ n ∧ n ≤ 20)) : AG (f9_law_b508 L xs v12 v13 v14 (nI c) (nI n) (X, Z)) D Q := by
  have hP := hJ.P4
  have ht9 := hJ.t9
  have hc5 : c < 5 := by omega
  obtain ⟨q1, S', g1, d1, h1, z1⟩ := ac_set h hc
  have r1 := hR.set0 (i := c) (by omega) (nI n)
  have hz6 : S' 0 6 = nI P := by rw [z1, lb_un (by omega)]; exact hJ.h6
  have hz5 : S' 0 5 = nI t := by rw [z1, lb_un (by omega)]; exact hJ.h5
  have hJ' := ac_J h1 hz6 hz5 hP (by omega)
  have hK' : KD (S' 0) t := hK.le (fun i hi => by rw [z1, lb_un (by omega)]; omega) (by rw [z1, lb_un (by omega)]) (fun p hp => by rw [z1, lb_un (by omega)])
  have ec : S 0 c = Z.1 0 c := (hR.q (i := c) (by omega)).symm
  unfold f9_law_b508
  rw [g1, lb_bd, lb_ck (by omega) (by omega), lb_cl (by omega), if_pos (show q1.1 = Z.1 0 c from d1.trans ec), lb_ck (by omega) (by omega), lb_bd]
  refine al_533 (Z := (ms_set Z.1 0 (upd (Z.1 0) c (nI n)), Z.2)) h1 ?_ hJ' hK' hP0 ht hD hQ
  rw [z1]
  exact r1
theorem al_241 {X : xs_T} {S : ms_T} {Z : ms_T × ms_T} {P t D Q : Nat} (h : RR X S) (hR : RG Z.1 (S 0)) (hJ : mb_J P t (S 0)) (hK : KD (S 0) t) (hP2 : 2 ≤ P) (ht : t + 99 ≤ D) (hD : D ≤ 2376) (hQ : Q ≤ P) (k : Nat) (hk : k < 12) : AG (f9_law_b241 L xs v12 v13 v14 (nI k) (X, Z)) D Q := by
  have hP := hJ.P4
  have ht9 := hJ.t9
  have e06 : Z.1 0 6 = nI P := (hR.q (i := 6) (by omega)).trans hJ.h6
  unfold f9_law_b241
  by_cases c8 : 8 ≤ k
  · rw [if_pos (show (8 : Int32) ≤ nI k from nI_le (a := 8) c8 (by omega))]
    by_cases e8 : k = 8
    · subst e8
      rw [if_pos (show nI 8 = (8 : Int32) from rfl)]
      obtain ⟨r, hr, l1⟩ := ga_low v14 (n := 10000) (by omega) (by omega)
      obtain ⟨q1, S', g1, d1, h1, z1⟩ := ac_seed h (r := r) (by omega)
      have r1 := hR.set0 (i := 8) (by omega) (nI r)
      have hz6 : S' 0 6 = nI P := by rw [z1, lb_un (by omega)]; exact hJ.h6
      have hz5 : S' 0 5 = nI t := by rw [z1, lb_un (by omega)]; exact hJ.h5
      have hJ' := ac_J h1 hz6 hz5 hP (by omega)
      have hK' : KD (S' 0) t := hK.le (fun i hi => by rw [z1, lb_un (by omega)]; omega) (by rw [z1, lb_un (by omega)]) (fun p hp => by rw [z1, lb_un (by omega)])
      have ec : S 0 8 = Z.1 0 8 := (hR.q (i := 8) (by omega)).symm
      rw [show (10000 : Int32) = nI 10000 from rfl, l1, lb_bd, g1, lb_bd, ga_k8, ga_k8, lb_c8, if_pos (show q1.1 = Z.1 0 8 from d1.trans ec), lb_bd]
      refine al_533 (Z := (ms_set Z.1 0 (upd (Z.1 0) 8 (nI r)), Z.2)) h1 ?_ hJ' hK' (by omega) (by omega) hD hQ
      rw [z1]
      exact r1
    · rw [if_neg (show ¬ nI k = (8 : Int32) from fun x => e8 ((lb_inj (b := 8) (by omega) (by omega)).mp x))]
      by_cases e9 : k = 9
      · subst e9
        rw [if_pos (show nI 9 = (9 : Int32) from rfl), ga_k6, lb_c6, show (X, Z).2.1 0 6 = nI P from e06]
        obtain ⟨r, hr, l1⟩ := ga_low v14 (n := P) (by omega) (by omega)
        obtain ⟨q1, S', B', g1, g2, h1, r1, z2, z1⟩ := ac_clear h hJ hr hR (hK.bound (by omega))
        have hz6 : S' 0 6 = nI P := by rw [z1 6 (by omega)]; exact hJ.h6
        have hz5 : S' 0 5 = nI t := by rw [z1 5 (by omega)]; exact hJ.h5
        have hJ' := ac_J h1 hz6 hz5 hP (by omega)
        have hK' : KD (S' 0) t := hK.le z2 (z1 7 (by omega)) (fun p hp => z1 _ (by omega))
        rw [l1, lb_bd, g1, lb_bd, show f9_clear (nI r) 0 (ms_set (q1.2, (X, Z).2).2.1 5 (fun _ => 0)) = some (q1.1, B') from g2, lb_bd, if_pos rfl]
        exact al_533 (Z := (B', Z.2)) h1 r1 hJ' hK' (by omega) (by omega) hD hQ
      · rw [if_neg (show ¬ nI k = (9 : Int32) from fun x => e9 ((lb_inj (b := 9) (by omega) (by omega)).mp x))]
        obtain ⟨w, hw, l1⟩ := ga_low v14 (n := 5) (by omega) (by omega)
        have go : ∀ n : Nat, ((w = 0 ∧ n ≤ 99) ∨ ((w = 1 ∨ w = 2) ∧ 1 ≤ n ∧ n ≤ 99) ∨ (w = 3 ∧ 1 ≤ n ∧ n ≤ 7) ∨ (w = 4 ∧ 1 ≤ n ∧ n ≤ 20)) → AG (f9_law_b508 L xs v12 v13 v14 (nI w) (nI n) (X, Z)) D Q := fun n hn => al_508 h hR hJ hK (by omega) (by omega) hD hQ hn
        rw [show (5 : Int32) = nI 5 from rfl, l1, lb_bd]
        have hw5 : w = 0 ∨ w = 1 ∨ w = 2 ∨ w = 3 ∨ w = 4 := by omega
        rcases hw5 with rfl | rfl | rfl | rfl | rfl
        · obtain ⟨x, hx, l2⟩ := ga_low (v14 >>> ((3 : Int32) &&& 31)) (n := 100) (by omega) (by omega)
          rw [if_pos (show nI 0 = (0 : Int32) from rfl), show (100 : Int32) = nI 100 from rfl, l2, lb_bd]
          exact go x (by omega)
        · obtain ⟨x, hx, l2⟩ := ga_low (v14 >>> ((3 : Int32) &&& 31)) (n := 99) (by omega) (by omega)
          rw [if_neg (show ¬ nI 1 = (0 : Int32) by decide), if_pos (show nI 1 = (1 : Int32) from rfl), show (99 : Int32) = nI 99 from rfl, l2, lb_bd, ga_1p]
          exact go (1 + x) (by omega)
        · obtain ⟨x, hx, l2⟩ := ga_low (v14 >>> ((3 : Int32) &&& 31)) (n := 99) (by omega) (by omega)
          rw [if_neg (show ¬ nI 2 = (0 : Int32) by decide), if_neg (show ¬ nI 2 = (1 : Int32) by decide), if_pos (show nI 2 = (2 : Int32) from rfl), show (99 : Int32) = nI 99 from rfl, l2, lb_bd, ga_1p]
          exact go (1 + x) (by omega)
        · obtain ⟨x, hx, l2⟩ := ga_low (v14 >>> ((3 : Int32) &&& 31)) (n := 7) (by omega) (by omega)
          rw [if_neg (show ¬ nI 3 = (0 : Int32) by decide), if_neg (show ¬ nI 3 = (1 : Int32) by decide), if_neg (show ¬ nI 3 = (2 : Int32) by decide), if_pos (show nI 3 = (3 : Int32) from rfl), show (7 : Int32) = nI 7 from rfl, l2, lb_bd, ga_1p]
          exact go (1 + x) (by omega)
        · obtain ⟨x, hx, l2⟩ := ga_low (v14 >>> ((3 : Int32) &&& 31)) (n := 20) (by omega) (by omega)
          rw [if_neg (show ¬ nI 4 = (0 : Int32) by decide), if_neg (show ¬ nI 4 = (1 : Int32) by decide), if_neg (show ¬ nI 4 = (2 : Int32) by decide), if_neg (show ¬ nI 4 = (3 : Int32) by decide), show (20 : Int32) = nI 20 from rfl, l2, lb_bd, ga_1p]
          exact go (1 + x) (by omega)
  · rw [if_neg (show ¬ (8 : Int32) ≤ nI k from nI_ge (b := 8) (by omega) (by omega))]
    obtain ⟨r, hr, l1⟩ := ga_low (v13 >>> ((4 : Int32) &&& 31)) (n := 3) (by omega) (by omega)
    rw [show (3 : Int32) = nI 3 from rfl, l1, lb_bd]
    by_cases c : nI r = 0
    · rw [if_pos c]
      exact al_269 h hR hJ hK hP2 ht hD hQ (m := 99) (by omega) (by omega) v14
    · rw [if_neg c]
      exact al_269 h hR hJ hK hP2 ht hD hQ (m := 20) (by omega) (by omega) v14
theorem al_166 {X : xs_T} {S : ms_T} {Z : ms_T × ms_T} {P t D Q : Nat} (h : RR X S) (hR : RG Z.1 (S 0)) (hJ : mb_J P t (S 0)) (hK : KD (S 0) t) (ht : t + 99 ≤ D) (hD : D ≤ 2376) (k : Nat) (hk : k < 12) (hc : (2 ≤ P ∧ Q ≤ P) ∨ (k = 0 ∧ Q ≤ P + 1 ∧ Q ≤ 2)) : AG (f9_law_b166 L xs v12 v13 v14 (nI k) (X, Z)) D Q := by
  have hP := hJ.P4
  have e06 : Z.1 0 6 = nI P := (hR.q (i := 6) (by omega)).trans hJ.h6
  unfold f9_law_b166
  by_cases c : k = 0
  · subst c
    rw [if_pos (show nI 0 = (0 : Int32) from rfl), ga_k6, lb_c6, show (X, Z).2.1 0 6 = nI P from e06]
    by_cases c4 : 4 ≤ P
    · rw [if_pos (show (4 : Int32) ≤ nI P from nI_le (a := 4) c4 (by omega))]
      exact al_241 h hR hJ hK (by omega) ht hD (by omega) 0 (by omega)
    · rw [if_neg (show ¬ (4 : Int32) ≤ nI P from nI_ge (b := 4) (by omega) (by omega))]
      obtain ⟨r, hr, l1⟩ := ga_low (v13 >>> ((4 : Int32) &&& 31)) (n := 3) (by omega) (by omega)
      rw [show (3 : Int32) = nI 3 from rfl, l1, lb_bd]
      by_cases cr : nI r = 0
      · rw [if_pos cr]
        exact al_202 h hR hJ hK (by omega) (by omega) hD (by omega) (m := 500) (by omega) (by omega) v14
      · rw [if_neg cr]
        exact al_202 h hR hJ hK (by omega) (by omega) hD (by omega) (m := 60) (by omega) (by omega) v14
  · rw [if_neg (nI_ne0 (by omega) (by omega))]
    exact al_241 h hR hJ hK (by omega) ht hD (by omega) k hk
theorem al_ce (k : Nat) (hk : k < 1000) (hL : L < 2 ^ 31) : ∃ v, lw_ce L xs (nI k) = some v := by
  unfold lw_ce
  by_cases c : L ≤ k
  · rw [if_pos (nI_le c (by omega))]; exact ⟨_, rfl⟩
  · rw [if_neg (nI_ge (by omega) hL), lb_ck (by omega) hL]; exact ⟨_, rfl⟩
/-- one act keeps the law's board and the class together -/
theorem al_act {X : xs_T} {S : ms_T} {Z : ms_T × ms_T} {P t k : Nat} (hL : L < 2 ^ 31) (h : RR X S) (hR : RG Z.1 (S 0)) (hJ : mb_J P t (S 0)) (hK : KD (S 0) t) (hk : k < 24) (ht : t ≤ 99 * k) (hP : min k 2 ≤ P) : AG (f9_law L xs (nI k) (X, Z)) (99 * (k + 1)) (min (k + 1) 2) := by
  obtain ⟨x, l1⟩ := al_ce (L := L) (xs := xs) (2 * k) (by omega) hL
  obtain ⟨y, l2⟩ := al_ce (L := L) (xs := xs) (2 * k + 1) (by omega) hL
  unfold f9_law
  rw [ga_2, l1, lb_bd, ga_p1, l2, lb_bd]
  by_cases c : 2 ≤ k
  · obtain ⟨r, hr, l3⟩ := ga_low x (n := 12) (by omega) (by omega)
    rw [if_pos (show (2 : Int32) ≤ nI k from nI_le (a := 2) c (by omega)), show (12 : Int32) = nI 12 from rfl, l3, lb_bd]
    exact al_166 h hR hJ hK (by omega) (by omega) r hr (Or.inl ⟨by omega, by omega⟩)
  · rw [if_neg (show ¬ (2 : Int32) ≤ nI k from nI_ge (b := 2) (by omega) (by omega))]
    exact al_166 h hR hJ hK (by omega) (by omega) 0 (by omega) (Or.inr ⟨rfl, by omega, by omega⟩)
end ACT
